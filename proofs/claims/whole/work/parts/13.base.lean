/-! numbers -/
theorem n_rng (x : Int32) : -2147483648 ≤ x.toInt ∧ x.toInt < 2147483648 := by
  have h1 := Int32.le_toInt x
  have h2 := Int32.toInt_lt x
  omega
theorem n_lt (a b : Int32) : a < b ↔ a.toInt < b.toInt := Int32.lt_iff_toInt_lt
theorem n_le (a b : Int32) : a ≤ b ↔ a.toInt ≤ b.toInt := Int32.le_iff_toInt_le
theorem n_eq (a b : Int32) : a = b ↔ a.toInt = b.toInt := Int32.toInt_inj.symm
/-- the number that an int keeps of a whole number -/
def zw (z : Int) : Int := (z + 2147483648) % 4294967296 - 2147483648
theorem zw_id {z : Int} (h1 : -2147483648 ≤ z) (h2 : z < 2147483648) : zw z = z := by unfold zw; omega
theorem n_bm (z : Int) : z.bmod (2 ^ 32) = zw z := by
  rw [show ((2 : Nat) ^ 32) = 4294967296 from rfl, Int.bmod_def]
  unfold zw
  split <;> omega
theorem n_add (a b : Int32) : (a + b).toInt = zw (a.toInt + b.toInt) := by rw [Int32.toInt_add, n_bm]
theorem n_sub (a b : Int32) : (a - b).toInt = zw (a.toInt - b.toInt) := by rw [Int32.toInt_sub, n_bm]
theorem n_mul (a b : Int32) : (a * b).toInt = zw (a.toInt * b.toInt) := by rw [Int32.toInt_mul, n_bm]
theorem n_neg (a : Int32) : (-a).toInt = zw (-a.toInt) := by rw [Int32.toInt_neg, n_bm]
theorem n_nI {n : Nat} (h : n < 2147483648) : (nI n).toInt = (n : Int) := nI_toInt h
theorem n_lit : (0 : Int32).toInt = 0 ∧ (1 : Int32).toInt = 1 ∧ (2 : Int32).toInt = 2 ∧ (3 : Int32).toInt = 3 ∧ (4 : Int32).toInt = 4 ∧ (5 : Int32).toInt = 5 ∧ (6 : Int32).toInt = 6 ∧ (7 : Int32).toInt = 7 ∧ (8 : Int32).toInt = 8 ∧ (9 : Int32).toInt = 9 ∧ (10 : Int32).toInt = 10 ∧ (11 : Int32).toInt = 11 ∧ (12 : Int32).toInt = 12 ∧ (13 : Int32).toInt = 13 ∧ (14 : Int32).toInt = 14 ∧ (15 : Int32).toInt = 15 ∧ (16 : Int32).toInt = 16 ∧ (17 : Int32).toInt = 17 ∧ (18 : Int32).toInt = 18 ∧ (19 : Int32).toInt = 19 ∧ (20 : Int32).toInt = 20 ∧ (24 : Int32).toInt = 24 ∧ (31 : Int32).toInt = 31 ∧ (32 : Int32).toInt = 32 ∧ (39 : Int32).toInt = 39 ∧ (40 : Int32).toInt = 40 ∧ (48 : Int32).toInt = 48 ∧ (57 : Int32).toInt = 57 ∧ (59 : Int32).toInt = 59 ∧ (60 : Int32).toInt = 60 ∧ (61 : Int32).toInt = 61 ∧ (63 : Int32).toInt = 63 ∧ (64 : Int32).toInt = 64 ∧ (97 : Int32).toInt = 97 ∧ (98 : Int32).toInt = 98 ∧ (99 : Int32).toInt = 99 ∧ (100 : Int32).toInt = 100 ∧ (122 : Int32).toInt = 122 ∧ (130 : Int32).toInt = 130 ∧ (159 : Int32).toInt = 159 ∧ (160 : Int32).toInt = 160 ∧ (161 : Int32).toInt = 161 ∧ (255 : Int32).toInt = 255 ∧ (480 : Int32).toInt = 480 ∧ (498 : Int32).toInt = 498 ∧ (999 : Int32).toInt = 999 ∧ (1000 : Int32).toInt = 1000 ∧ (1156 : Int32).toInt = 1156 ∧ (1476 : Int32).toInt = 1476 ∧ (2880 : Int32).toInt = 2880 ∧ (4095 : Int32).toInt = 4095 ∧ (4096 : Int32).toInt = 4096 ∧ (5959 : Int32).toInt = 5959 ∧ (9317 : Int32).toInt = 9317 ∧ (9999 : Int32).toInt = 9999 ∧ (10000 : Int32).toInt = 10000 ∧ (14836 : Int32).toInt = 14836 ∧ (23732 : Int32).toInt = 23732 ∧ (99724 : Int32).toInt = 99724 ∧ (99999 : Int32).toInt = 99999 ∧ (763332 : Int32).toInt = 763332 ∧ (14982420 : Int32).toInt = 14982420 ∧ (24627848 : Int32).toInt = 24627848 ∧ (492210354 : Int32).toInt = 492210354 ∧ (777297172 : Int32).toInt = 777297172 := ⟨rfl, rfl, rfl, rfl, rfl, rfl, rfl, rfl, rfl, rfl, rfl, rfl, rfl, rfl, rfl, rfl, rfl, rfl, rfl, rfl, rfl, rfl, rfl, rfl, rfl, rfl, rfl, rfl, rfl, rfl, rfl, rfl, rfl, rfl, rfl, rfl, rfl, rfl, rfl, rfl, rfl, rfl, rfl, rfl, rfl, rfl, rfl, rfl, rfl, rfl, rfl, rfl, rfl, rfl, rfl, rfl, rfl, rfl, rfl, rfl, rfl, rfl, rfl, rfl, rfl⟩
theorem n_0 : (0 : Int32).toInt = 0 := by decide
theorem n_1 : (1 : Int32).toInt = 1 := by decide
theorem n_cl (x : Int32) : x.toNatClampNeg = x.toInt.toNat := rfl
theorem n_div {x : Int32} (d : Nat) (h0 : 0 < d) (hd : d < 2147483648) (hx : 0 ≤ x.toInt) : (x / nI d).toInt = x.toInt / d := by
  rw [lg_idiv_nonneg hx (by rw [n_nI hd]; omega), n_nI hd]
theorem n_rem {x : Int32} (d : Nat) (h0 : 0 < d) (hd : d < 2147483648) (hx : 0 ≤ x.toInt) : (x - x / nI d * nI d).toInt = x.toInt % d := by
  have h := n_rng x
  have e := n_div d h0 hd hx
  have e1 : x.toInt / (d : Int) * d ≤ x.toInt := Int.ediv_mul_le _ (by omega)
  have e2 : 0 ≤ x.toInt / (d : Int) := Int.ediv_nonneg hx (by omega)
  have e3 : 0 ≤ x.toInt / (d : Int) * d := Int.mul_nonneg e2 (by omega)
  have e4 : x.toInt % (d : Int) = x.toInt - x.toInt / d * d := by rw [Int.emod_def, Int.mul_comm]
  rw [n_sub, n_mul, e, n_nI hd, zw_id (z := x.toInt / (d : Int) * d) (by omega) (by omega), zw_id (by omega) (by omega), e4]
theorem n_in {x : Int32} {n : Nat} (h1 : 0 ≤ x.toInt) (h2 : x.toInt < n) : vp_in x n := vp_in_iff.mpr ⟨h1, h2⟩
theorem n_inI {i n : Nat} (h : i < n) (hn : n < 2147483648) : vp_in (nI i) n := vp_in_nI h hn
theorem n_clI {n : Nat} (h : n < 2147483648) : (nI n).toNatClampNeg = n := nI_clamp h
theorem n_of {x : Int32} (h : 0 ≤ x.toInt) : x = nI x.toInt.toNat := by
  have h2 := n_rng x
  rw [n_eq, n_nI (by omega)]
  omega
theorem mx_mono {g : zq_G} {d k pc : Nat} {ls st : List Value} {M : zq_M} {Q Q' : Option Value → zq_M → Prop} (h : mx g d k pc ls st M Q) (hq : ∀ r M', Q r M' → Q' r M') : mx g d k pc ls st M Q' :=
  zq_g.mono (fun r h' q => by obtain ⟨x', e, q⟩ := q; exact ⟨x', e, hq r x' q⟩) h
theorem mx_q {g : zq_G} {d k pc : Nat} {ls st : List Value} {M : zq_M} {Q : Option Value → zq_M → Prop} (h : ∀ Q' : Option Value → zq_M → Prop, (∀ r M', Q r M' → Q' r M') → mx g d k pc ls st M Q') : mx g d k pc ls st M Q := h Q (fun _ _ q => q)
theorem upd_all {P : Int32 → Prop} {f : Nat → Int32} {k : Nat} {v : Int32} (hf : ∀ i, P (f i)) (hv : P v) : ∀ i, P (upd f k v i) := by
  intro i
  unfold upd
  split
  · exact hv
  · exact hf i
/-! the class's memory and the reference's -/
def gS (n n' : Int32) (w w' p p' : Nat → Int32) : Prop := n' = n ∧ w' = w ∧ p' = p ∧ 0 ≤ n.toInt ∧ n.toInt ≤ 10 ∧ (∀ i, 0 ≤ (w i).toInt ∧ (w i).toInt ≤ 99) ∧ (∀ i, 0 ≤ (p i).toInt ∧ (p i).toInt ≤ 4095) ∧ ∀ i : Nat, (i : Int) < n.toInt → 1 ≤ (w i).toInt
def gN (n n' : Int32) (a a' b b' c c' e e' : Nat → Int32) : Prop := n' = n ∧ a' = a ∧ b' = b ∧ c' = c ∧ e' = e ∧ 0 ≤ n.toInt ∧ n.toInt ≤ 60 ∧ (∀ i, 0 ≤ (a i).toInt ∧ (a i).toInt ≤ 9) ∧ (∀ i, 0 ≤ (b i).toInt ∧ (b i).toInt ≤ 9) ∧ (∀ i, 0 ≤ (c i).toInt ∧ (c i).toInt ≤ 99) ∧ ∀ i, 0 ≤ (e i).toInt ∧ (e i).toInt ≤ 3
def gH (n n' : Int32) (k k' u u' : Nat → Int32) : Prop := n' = n ∧ k' = k ∧ u' = u ∧ 0 ≤ n.toInt ∧ n.toInt ≤ 8 ∧ (∀ i, 0 ≤ (k i).toInt ∧ (k i).toInt ≤ 5) ∧ ∀ i, 0 ≤ (u i).toInt ∧ (u i).toInt ≤ 20
/-- tracks and crosses; s: how many stones -/
def gT (s n n' c c' : Int32) (a a' l l' t t' o o' u u' : Nat → Int32) : Prop := n' = n ∧ c' = c ∧ a' = a ∧ l' = l ∧ t' = t ∧ o' = o ∧ u' = u ∧ 0 ≤ n.toInt ∧ n.toInt ≤ 24 ∧ 0 ≤ c.toInt ∧ c.toInt ≤ 20 ∧ (∀ i : Nat, (i : Int) < n.toInt → 0 ≤ (a i).toInt ∧ (a i).toInt < s.toInt) ∧ (∀ i, 0 ≤ (l i).toInt ∧ (l i).toInt ≤ 999) ∧ (∀ i, 0 ≤ (t i).toInt ∧ (t i).toInt ≤ 99) ∧ (∀ i, 0 ≤ (o i).toInt ∧ (o i).toInt ≤ 23) ∧ (∀ i, 0 ≤ (u i).toInt ∧ (u i).toInt ≤ 23) ∧ ∀ i : Nat, (i : Int) < c.toInt → (u i).toInt < n.toInt
def gP (n n' : Int32) (x y p : Nat → Int32) : Prop := n' = n ∧ (∀ i, x i = p i - p i / 64 * 64) ∧ (∀ i, y i = p i / 64) ∧ 0 ≤ n.toInt ∧ n.toInt ≤ 8 ∧ ∀ i, 0 ≤ (p i).toInt ∧ (p i).toInt ≤ 4095
/-- the image: is there one, stones, places, rule, tracks, crosses, pegs; then the numbers now -/
def gI (i i' s s' r r' t t' c c' p p' : Int32) (k k' : Nat → Int32) (ns nx nt nc np : Int32) (u : Nat → Int32) : Prop := i' = i ∧ s' = s ∧ r' = r ∧ t' = t ∧ c' = c ∧ p' = p ∧ k' = k ∧ zq_b i ∧ 0 ≤ s.toInt ∧ s.toInt ≤ ns.toInt ∧ 0 ≤ r.toInt ∧ r.toInt < nx.toInt ∧ 0 ≤ t.toInt ∧ t.toInt ≤ nt.toInt ∧ 0 ≤ c.toInt ∧ c.toInt ≤ nc.toInt ∧ 0 ≤ p.toInt ∧ p.toInt ≤ np.toInt ∧ (∀ j, 0 ≤ (k j).toInt ∧ (k j).toInt ≤ 4095) ∧ ∀ i : Nat, (i : Int) < c.toInt → (u i).toInt < t.toInt
/-- sheets: sorts, sizes, cells -/
def gE (so so' si si' ce it : Nat → Int32) : Prop := so' = so ∧ si' = si ∧ (∀ s, s < 4 → -1 ≤ (so s).toInt ∧ (so s).toInt ≤ 2) ∧ (∀ s, s < 4 → 0 ≤ (si s).toInt ∧ (si s).toInt ≤ 40) ∧ ∀ s i : Nat, s < 4 → (i : Int) < (si s).toInt → ce (40 * s + i) = it (40 * s + i)
def gF (n n' : Int32) (t t' : Nat → Int32) : Prop := n' = n ∧ t' = t ∧ 0 ≤ n.toInt ∧ n.toInt ≤ 160 ∧ ∀ i, 0 ≤ (t i).toInt ∧ (t i).toInt ≤ 255
/-- a step of a text as the reference keeps it -/
def stp (sg te : Int32) (s : Int) : Prop := (sg.toInt = 0 ∧ te.toInt = s ∧ 0 ≤ s) ∨ (sg.toInt = 1 ∧ te.toInt = -1 - s ∧ -6 ≤ s ∧ s ≤ -1) ∨ (2 ≤ sg.toInt ∧ sg.toInt ≤ 10 ∧ s = -5 - sg.toInt)
/-- every step finds what it needs on a stack of at most 40; one value is left -/
def pok : Nat → List Int → Bool
  | d, [] => d == 1
  | d, s :: r => if -6 ≤ s then decide (d < 40) && pok (d + 1) r else if s = -9 ∨ s = -15 then decide (1 ≤ d) && pok d r else decide (2 ≤ d) && pok (d - 1) r
/-- part p of text t is the list l of steps, and begins at place f of the class's code -/
def prt (co en sg te ma : Nat → Int32) (t p f : Nat) (l : List Int) : Prop := (p = 0 → f = 0) ∧ (0 < p → (en (3 * t + p - 1)).toInt = f) ∧ (en (3 * t + p)).toInt = f + l.length ∧ f + l.length ≤ 160 ∧ (∀ (j : Nat) (s : Int), l[j]? = some s → (co (160 * t + f + j)).toInt = s ∧ stp (sg (480 * t + 160 * p + j)) (te (480 * t + 160 * p + j)) s) ∧ (ma (3 * t + p)).toInt = l.length ∧ pok 0 l = true
def gX (n n' r r' : Int32) (co en sg te ma : Nat → Int32) : Prop := n' = n ∧ r' = r ∧ 1 ≤ n.toInt ∧ n.toInt ≤ 6 ∧ 0 ≤ r.toInt ∧ r.toInt < n.toInt ∧ ∀ t p : Nat, (t : Int) < n.toInt → p < 3 → ∃ (f : Nat) (l : List Int), prt co en sg te ma t p f l
def RR (M : zq_M) : Prop :=
  gS (M 1 3) (M 48 0) (M 2) (M 49) (M 3) (M 50) ∧
  gN (M 5 4) (M 48 1) (M 6) (M 51) (M 7) (M 52) (M 8) (M 53) (M 9) (M 54) ∧
  gH (M 10 2) (M 48 2) (M 11) (M 55) (M 12) (M 56) ∧
  gT (M 1 3) (M 30 7) (M 48 32) (M 30 8) (M 48 39) (M 31) (M 67) (M 32) (M 68) (M 33) (M 69) (M 34) (M 72) (M 35) (M 73) ∧
  gP (M 38 2) (M 48 37) (M 39) (M 40) (M 71) ∧
  gI (M 0 11) (M 48 42) (M 1 4) (M 48 43) (M 13 6) (M 48 44) (M 30 9) (M 48 45) (M 30 10) (M 48 46) (M 38 3) (M 48 47) (M 4) (M 74) (M 1 3) (M 13 4) (M 30 7) (M 30 8) (M 38 2) (M 35) ∧
  gE (M 46) (M 75) (M 47) (M 76) (M 45) (M 77) ∧
  gF (M 18 5) (M 48 13) (M 21) (M 57) ∧
  gX (M 13 4) (M 48 11) (M 13 5) (M 48 12) (M 14) (M 15) (M 58) (M 59) (M 60) ∧
  M 48 27 = -1
/-- a call of the class, and the same call of the reference behind it: one answer, and the memories agree again -/
def pri (g : zq_G) (d kx km : Nat) (ax am : List Value) (M : zq_M) : Prop := mx g d kx 0 ax [] M (fun r M1 => ∃ v : Int32, r = some (.int v) ∧ mx g d km 0 am [] M1 (fun r2 M2 => r2 = some (.int v) ∧ RR M2))
def prl (g : zq_G) (d kx km : Nat) (ax am : List Value) (M : zq_M) : Prop := mx g d kx 0 ax [] M (fun r M1 => ∃ v : Int64, r = some (.long v) ∧ mx g d km 0 am [] M1 (fun r2 M2 => r2 = some (.long v) ∧ RR M2))
