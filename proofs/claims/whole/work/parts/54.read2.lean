theorem c_lp83 {g : zq_G} {d : Nat} {Q : Option Value → zq_M → Prop} {tk : Nat → Int} {m f lv o : Nat} {mo : Int32} (IH : IHr g tk m f) (hd : 3 * f ≤ d + 2) (hE : ∀ j, m ≤ j → tk j = -22) (hm : m ≤ 160) (hlv : lv < 5) (ho : o ≤ 5) (hmu : 8 * (5 - o) + (5 - (lv + 1)) < f) : ∀ (mm : Nat) (x : Int32) (n k : Nat) (M : zq_M), 0 ≤ x.toInt → mo.toInt = x.toInt + (mm : Int) → mo.toInt ≤ 160 → tkP M tk m → n ≤ m → k ≤ n → (M 18 7).toInt = (n : Int) → (M 18 6).toInt = (k : Int) → rsC (lp tk lv (fun j => rd tk f (lv + 1) o j) mm n) k M Q → mx g (d + 3) kX5_read 83 [.ref 18, .int (nI lv), .int (nI o), .int mo, .int x, .null] [] M Q
  | 0, x, n, k, M, x1, x2, x3, ht, hn, hk, h7, h6, hq => by
    refine mx_go 250 zq_t32 ?_
    show ((mo : Int32) ≤ (x : Int32) → zq_b 1 ∧ Q (some (.int 1)) M) ∧ (¬ (mo : Int32) ≤ (x : Int32) → vp_in (M 18 7) 161 ∧ mx g (d + 2) kX5_levelOf 0 [.int (((M 22) (Int32.toNatClampNeg (M 18 7))))] [] M _)
    refine ⟨fun _ => ⟨Or.inr rfl, hq M fr_rfl h7 (fun _ => ⟨h6, cdP_nil rfl⟩)⟩, fun z => absurd (by rw [n_le]; omega) z⟩
  | mm + 1, x, n, k, M, x1, x2, x3, ht, hn, hk, h7, h6, hq => by
    have f160 : (160 : Int32).toInt = 160 := rfl
    have el := nIt (n := lv) (by omega)
    have nin : vp_in (M 18 7) 161 := n_in (by omega) (by omega)
    have et : (M 22 (M 18 7).toNatClampNeg).toInt = tk n := by rw [n_cl, h7, Int.toNat_natCast]; exact ht n hn
    have up := n_up (n := mo) x1 (by omega)
    refine mx_go 250 zq_t32 ?_
    show ((mo : Int32) ≤ (x : Int32) → zq_b 1 ∧ Q (some (.int 1)) M) ∧ (¬ (mo : Int32) ≤ (x : Int32) → vp_in (M 18 7) 161 ∧ mx g (d + 2) kX5_levelOf 0 [.int (((M 22) (Int32.toNatClampNeg (M 18 7))))] [] M _)
    refine ⟨fun z => absurd z (by rw [n_le]; omega), fun _ => ⟨nin, ?_⟩⟩
    refine c_X5_levelOf (fun v hv => ?_)
    rw [et] at hv
    show (¬ (v : Int32) = ((nI lv) : Int32) → zq_b 1 ∧ Q (some (.int 1)) M) ∧ ((v : Int32) = ((nI lv) : Int32) → vp_in (M 18 7) 161 ∧ mx g (d + 2) kX5_advance 0 [.ref 18] [] M _)
    unfold lp at hq
    refine ⟨fun y => ⟨Or.inr rfl, ?_⟩, fun y => ⟨nin, ?_⟩⟩
    · rw [n_eq, hv, el] at y
      rw [if_neg y] at hq
      exact hq M fr_rfl h7 (fun _ => ⟨h6, cdP_nil rfl⟩)
    · rw [n_eq, hv, el] at y
      rw [if_pos y] at hq
      have h22 : tk n ≠ -22 := fun e => by rw [e] at y; rcases lvl_cases y with z | z | z | z | z <;> omega
      have lt : n < m := by
        by_cases c : m ≤ n
        · exact absurd (hE n c) h22
        · omega
      refine c_X5_advance ht hE hm h7 lt h22 (fun M1 f1 e7 e6 e19 => ?_)
      show mx g (d + 2) kX5_read 0 [.ref 18, .int (((nI lv) + 1)), .int ((nI o)), .null, .null, .null] [] M1 _
      rw [nI_1]
      refine IH (d + 2) (by omega) (lv + 1) o (n + 1) k M1 _ (by omega) ho (tkP_fr ht f1) (by omega) (by omega) e7 (by rw [e6]; exact h6) hmu (fun M2 f2 g7 gc => ?_)
      have bd := rd_bd hE f (lv + 1) o (n + 1) (by omega)
      unfold sqR at hq
      cases hr : (rd tk f (lv + 1) o (n + 1)).1 with
      | false =>
        rw [hr, if_neg (by decide)] at hq
        show (¬ (0 : Int32) = 0 → mx g (d + 2) kX5_put 0 [.ref 18, .int ((M 22 (M 18 7).toNatClampNeg))] [] M2 _) ∧ ((0 : Int32) = 0 → zq_b 0 ∧ Q (some (.int 0)) M2)
        exact ⟨fun w => absurd rfl w, fun _ => ⟨Or.inl rfl, hq M2 (fr_trans f1 f2) g7 (fun w => abF w)⟩⟩
      | true =>
        rw [hr, if_pos rfl] at hq
        have q := gc hr
        have b3 := bd.2.2 hr
        show (¬ (1 : Int32) = 0 → mx g (d + 2) kX5_put 0 [.ref 18, .int ((M 22 (M 18 7).toNatClampNeg))] [] M2 _) ∧ ((1 : Int32) = 0 → zq_b 0 ∧ Q (some (.int 0)) M2)
        refine ⟨fun _ => ?_, fun w => absurd w (by decide)⟩
        refine c_X5_put (k := k + (rd tk f (lv + 1) o (n + 1)).2.2.length) q.1 (by have := bd.1; omega) (fun M3 f3 r7 r6 rc => ?_)
        rw [et] at rc
        show mx g (d + 3) kX5_read 83 [.ref 18, .int ((nI lv)), .int ((nI o)), .int (mo), .int ((x + 1)), .null] [] M3 Q
        have fa : fr fR M M3 := fr_trans f1 (fr_trans f2 f3)
        refine c_lp83 IH hd hE hm hlv ho hmu mm (x + 1) _ (k + (rd tk f (lv + 1) o (n + 1)).2.2.length + 1) M3 (by omega) (by omega) x3 (tkP_fr ht fa) bd.1 (by omega) (by rw [r7]; exact g7) r6 (fun M4 f4 s7 sc => ?_)
        refine hq M4 (fr_trans fa f4) s7 (fun c => ?_)
        have s := sc c
        have c1 : cdP M M3 k ((rd tk f (lv + 1) o (n + 1)).2.2 ++ [tk n]) := by
          have a : cdP M M2 k (rd tk f (lv + 1) o (n + 1)).2.2 := ⟨fun j hj => by rw [q.2.1 j hj, e19], q.2.2⟩
          exact cdP_app a rc
        have c2 := cdP_app c1 (by rw [List.length_append, List.length_singleton, ← Nat.add_assoc]; exact s.2)
        refine ⟨?_, ?_⟩
        · rw [s.1]
          show _ = ((k + ((rd tk f (lv + 1) o (n + 1)).2.2 ++ tk n :: (lp tk lv (fun j => rd tk f (lv + 1) o j) mm (rd tk f (lv + 1) o (n + 1)).2.1).2.2).length : Nat) : Int)
          rw [List.length_append, List.length_cons]
          omega
        · show cdP M M4 k ((rd tk f (lv + 1) o (n + 1)).2.2 ++ tk n :: (lp tk lv (fun j => rd tk f (lv + 1) o j) mm (rd tk f (lv + 1) o (n + 1)).2.1).2.2)
          rw [List.append_assoc] at c2
          exact c2
theorem c_read {g : zq_G} {tk : Nat → Int} {m : Nat} (hE : ∀ j, m ≤ j → tk j = -22) (hm : m ≤ 160) : ∀ f : Nat, IHr g tk m f
  | 0 => fun E hd lv o n k M Q hlv ho ht hn hk h7 h6 hmu hq => absurd hmu (by omega)
  | f + 1 => by
    have IH := c_read (g := g) hE hm f
    intro E hd lv o n k M Q hlv ho ht hn hk h7 h6 hmu hq
    obtain ⟨d, rfl⟩ : ∃ d, E = d + 3 := ⟨E - 3, by omega⟩
    have f5 : (5 : Int32).toInt = 5 := rfl
    have f2 : (2 : Int32).toInt = 2 := rfl
    have m9 : (-9 : Int32).toInt = -9 := by decide
    have el := nIt (n := lv) (by omega)
    have nin : vp_in (M 18 7) 161 := n_in (by omega) (by omega)
    have et : (M 22 (M 18 7).toNatClampNeg).toInt = tk n := by rw [n_cl, h7, Int.toNat_natCast]; exact ht n hn
    refine mx_go 250 zq_t32 ?_
    show (((nI lv) : Int32) < (5 : Int32) → (¬ ((nI lv) : Int32) = (2 : Int32) → mx g (d + 2) kX5_read 0 [.ref 18, .int (((nI lv) + 1)), .int ((nI o)), .null, .null, .null] [] M _) ∧ (((nI lv) : Int32) = (2 : Int32) → vp_in (M 18 7) 161 ∧ (¬ (((M 22) (Int32.toNatClampNeg (M 18 7))) : Int32) = ((-9) : Int32) → mx g (d + 2) kX5_read 0 [.ref 18, .int (((nI lv) + 1)), .int ((nI o)), .null, .null, .null] [] M _) ∧ ((((M 22) (Int32.toNatClampNeg (M 18 7))) : Int32) = ((-9) : Int32) → mx g (d + 2) kX5_readBehind 0 [.ref 18, .int (2), .int ((nI o))] [] M _))) ∧ (¬ ((nI lv) : Int32) < (5 : Int32) → mx g (d + 2) kX5_readOne 0 [.ref 18, .int ((nI o)), .null] [] M _)
    by_cases h5 : lv = 5
    · subst h5
      refine ⟨fun z => absurd z (by rw [n_lt, el, f5]; omega), fun _ => ?_⟩
      refine c_readOne IH (by omega) hE hm ht ho hn h7 h6 hk (by omega) (fun M1 f1 e7 gc => ?_)
      show zq_b (bI (rd tk (f + 1) 5 o n).1) ∧ Q (some (.int (bI (rd tk (f + 1) 5 o n).1))) M1
      exact ⟨bI_b, hq M1 f1 e7 gc⟩
    refine ⟨fun _ => ⟨fun y => ?_, fun y => ⟨nin, fun w => ?_, fun w => ?_⟩⟩, fun z => absurd (by rw [n_lt, el, f5]; omega) z⟩
    · rw [n_eq, el, f2] at y
      unfold rd at hq
      rw [if_neg (by omega), if_neg (fun c => by omega)] at hq
      rw [nI_1]
      refine IH (d + 2) (by omega) (lv + 1) o n k M _ (by omega) ho ht hn hk h7 h6 (by omega) (fun M1 f1 e7 gc => ?_)
      have bd := rd_bd hE f (lv + 1) o n hn
      cases hr : (rd tk f (lv + 1) o n).1 with
      | false =>
        show (¬ (0 : Int32) = 0 → (¬ ((nI lv) : Int32) = (2 : Int32) → mx g (d + 3) kX5_read 83 [.ref 18, .int ((nI lv)), .int ((nI o)), .int (160), .int (0), .null] [] M1 Q) ∧ (((nI lv) : Int32) = (2 : Int32) → mx g (d + 3) kX5_read 83 [.ref 18, .int ((nI lv)), .int ((nI o)), .int (1), .int (0), .null] [] M1 Q)) ∧ ((0 : Int32) = 0 → zq_b 0 ∧ Q (some (.int 0)) M1)
        refine ⟨fun v => absurd rfl v, fun _ => ⟨Or.inl rfl, ?_⟩⟩
        unfold sqR at hq
        rw [hr, if_neg (by decide)] at hq
        exact hq M1 f1 e7 (fun v => abF v)
      | true =>
        have q := gc hr
        have b3 := bd.2.2 hr
        have go : ∀ (mo : Int32) (mm : Nat), mo.toInt = (mm : Int) → (if lv = 2 then 1 else 160) = mm → mm ≤ 160 → mx g (d + 3) kX5_read 83 [.ref 18, .int (nI lv), .int (nI o), .int mo, .int 0, .null] [] M1 Q := by
          intro mo mm e1 e2 e3
          refine c_lp83 IH (by omega) hE hm (by omega) ho (by omega) mm 0 _ (k + (rd tk f (lv + 1) o n).2.2.length) M1 (by decide) (by rw [n_0]; omega) (by omega) (tkP_fr ht f1) bd.1 (by omega) e7 q.1 (fun M2 f2 g7 g3 => ?_)
          unfold sqR at hq
          rw [hr, if_pos rfl, e2] at hq
          refine hq M2 (fr_trans f1 f2) g7 (fun c => ?_)
          have q2 := g3 c
          refine ⟨?_, cdP_app q.2 q2.2⟩
          rw [q2.1]
          show _ = ((k + ((rd tk f (lv + 1) o n).2.2 ++ (lp tk lv (fun j => rd tk f (lv + 1) o j) mm (rd tk f (lv + 1) o n).2.1).2.2).length : Nat) : Int)
          rw [List.length_append]
          omega
        show (¬ (1 : Int32) = 0 → (¬ ((nI lv) : Int32) = (2 : Int32) → mx g (d + 3) kX5_read 83 [.ref 18, .int ((nI lv)), .int ((nI o)), .int (160), .int (0), .null] [] M1 Q) ∧ (((nI lv) : Int32) = (2 : Int32) → mx g (d + 3) kX5_read 83 [.ref 18, .int ((nI lv)), .int ((nI o)), .int (1), .int (0), .null] [] M1 Q)) ∧ ((1 : Int32) = 0 → zq_b 0 ∧ Q (some (.int 0)) M1)
        refine ⟨fun _ => ⟨fun v => go 160 160 rfl ?_ (by omega), fun v => go 1 1 rfl ?_ (by omega)⟩, fun v => absurd v (by decide)⟩
        · rw [n_eq, el, f2] at v
          rw [if_neg (by omega)]
        · rw [n_eq, el, f2] at v
          rw [if_pos (by omega)]
    · rw [n_eq, el, f2] at y
      rw [n_eq, et, m9] at w
      unfold rd at hq
      rw [if_neg (by omega), if_neg (fun c => w c.2)] at hq
      rw [nI_1]
      refine IH (d + 2) (by omega) (lv + 1) o n k M _ (by omega) ho ht hn hk h7 h6 (by omega) (fun M1 f1 e7 gc => ?_)
      have bd := rd_bd hE f (lv + 1) o n hn
      cases hr : (rd tk f (lv + 1) o n).1 with
      | false =>
        show (¬ (0 : Int32) = 0 → (¬ ((nI lv) : Int32) = (2 : Int32) → mx g (d + 3) kX5_read 83 [.ref 18, .int ((nI lv)), .int ((nI o)), .int (160), .int (0), .null] [] M1 Q) ∧ (((nI lv) : Int32) = (2 : Int32) → mx g (d + 3) kX5_read 83 [.ref 18, .int ((nI lv)), .int ((nI o)), .int (1), .int (0), .null] [] M1 Q)) ∧ ((0 : Int32) = 0 → zq_b 0 ∧ Q (some (.int 0)) M1)
        refine ⟨fun v => absurd rfl v, fun _ => ⟨Or.inl rfl, ?_⟩⟩
        unfold sqR at hq
        rw [hr, if_neg (by decide)] at hq
        exact hq M1 f1 e7 (fun v => abF v)
      | true =>
        have q := gc hr
        have b3 := bd.2.2 hr
        have go : ∀ (mo : Int32) (mm : Nat), mo.toInt = (mm : Int) → (if lv = 2 then 1 else 160) = mm → mm ≤ 160 → mx g (d + 3) kX5_read 83 [.ref 18, .int (nI lv), .int (nI o), .int mo, .int 0, .null] [] M1 Q := by
          intro mo mm e1 e2 e3
          refine c_lp83 IH (by omega) hE hm (by omega) ho (by omega) mm 0 _ (k + (rd tk f (lv + 1) o n).2.2.length) M1 (by decide) (by rw [n_0]; omega) (by omega) (tkP_fr ht f1) bd.1 (by omega) e7 q.1 (fun M2 f2 g7 g3 => ?_)
          unfold sqR at hq
          rw [hr, if_pos rfl, e2] at hq
          refine hq M2 (fr_trans f1 f2) g7 (fun c => ?_)
          have q2 := g3 c
          refine ⟨?_, cdP_app q.2 q2.2⟩
          rw [q2.1]
          show _ = ((k + ((rd tk f (lv + 1) o n).2.2 ++ (lp tk lv (fun j => rd tk f (lv + 1) o j) mm (rd tk f (lv + 1) o n).2.1).2.2).length : Nat) : Int)
          rw [List.length_append]
          omega
        show (¬ (1 : Int32) = 0 → (¬ ((nI lv) : Int32) = (2 : Int32) → mx g (d + 3) kX5_read 83 [.ref 18, .int ((nI lv)), .int ((nI o)), .int (160), .int (0), .null] [] M1 Q) ∧ (((nI lv) : Int32) = (2 : Int32) → mx g (d + 3) kX5_read 83 [.ref 18, .int ((nI lv)), .int ((nI o)), .int (1), .int (0), .null] [] M1 Q)) ∧ ((1 : Int32) = 0 → zq_b 0 ∧ Q (some (.int 0)) M1)
        refine ⟨fun _ => ⟨fun v => go 160 160 rfl ?_ (by omega), fun v => go 1 1 rfl ?_ (by omega)⟩, fun v => absurd v (by decide)⟩
        · rw [n_eq, el, f2] at v
          rw [if_neg (by omega)]
        · rw [n_eq, el, f2] at v
          rw [if_pos (by omega)]
    · rw [n_eq, el, f2] at y
      obtain rfl : lv = 2 := by omega
      rw [n_eq, et, m9] at w
      unfold rd at hq
      rw [if_neg (by omega), if_pos ⟨rfl, w⟩] at hq
      have l1 : n < m := by
        by_cases c : m ≤ n
        · rw [hE n c] at w; omega
        · omega
      refine c_behind (d := d + 1) (lv := 2) IH (by omega) hE hm ht (by omega) ho h7 h6 hk l1 (by omega) (fun c => by omega) (fun c => ?_) (fun c => ?_)
      · rw [if_pos c] at hq
        show ((0 : Int32) = 0 → zq_b 0 ∧ Q (some (.int 0)) M) ∧ (¬ (0 : Int32) = 0 → mx g (d + 2) kX5_put 0 [.ref 18, .int ((-9))] [] M _)
        exact ⟨fun _ => ⟨Or.inl rfl, hq M fr_rfl h7 (fun v => abF v)⟩, fun v => absurd rfl v⟩
      · rw [if_neg (by omega)] at hq
        have bd := rd_bd hE f 2 (o + 1) (n + 1) (by omega)
        intro M1 f1 e7 gc
        generalize rd tk f 2 (o + 1) (n + 1) = r at hq bd e7 gc
        unfold unR at hq
        cases hr : r.1 with
        | false =>
          rw [hr, if_neg (by decide)] at hq
          show ((0 : Int32) = 0 → zq_b 0 ∧ Q (some (.int 0)) M1) ∧ (¬ (0 : Int32) = 0 → mx g (d + 2) kX5_put 0 [.ref 18, .int ((-9))] [] M1 _)
          exact ⟨fun _ => ⟨Or.inl rfl, hq M1 f1 e7 (fun v => abF v)⟩, fun v => absurd rfl v⟩
        | true =>
          rw [hr, if_pos rfl] at hq
          have q := gc hr
          have b3 := bd.2.2 hr
          show ((1 : Int32) = 0 → zq_b 0 ∧ Q (some (.int 0)) M1) ∧ (¬ (1 : Int32) = 0 → mx g (d + 2) kX5_put 0 [.ref 18, .int ((-9))] [] M1 _)
          refine ⟨fun v => absurd v (by decide), fun _ => ?_⟩
          refine c_X5_put (k := k + r.2.2.length) q.1 (by have := bd.1; omega) (fun M2 f2' g7 g6 gd => ?_)
          show ((1 : Int32) = 0 → zq_b 0 ∧ Q (some (.int 0)) M2) ∧ (¬ (1 : Int32) = 0 → zq_b 1 ∧ Q (some (.int 1)) M2)
          refine ⟨fun v => absurd v (by decide), fun _ => ⟨Or.inr rfl, hq M2 (fr_trans f1 f2') (by rw [g7]; exact e7) (fun _ => ⟨?_, ?_⟩)⟩⟩
          · rw [g6]
            show _ = ((k + (r.2.2 ++ [-9]).length : Nat) : Int)
            rw [List.length_append, List.length_singleton]
            omega
          · rw [m9] at gd
            exact cdP_app q.2 gd

