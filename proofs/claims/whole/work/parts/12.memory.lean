/-! MEMORY behind the constructors: the cells stand as zq_sh says; M c i is place i of cell c -/
abbrev zq_M : Type := Nat → Nat → Int32
def zq_ma (M : zq_M) (c : Nat) (f : Nat → Int32) : zq_M := fun a => if a = c then f else M a
def zq_mu (M : zq_M) (c i : Nat) (v : Int32) : zq_M := zq_ma M c (upd (M c) i v)
def zq_nt {α : Type} : List α → Nat → Option α
  | [], _ => none
  | a :: _, 0 => some a
  | _ :: r, n + 1 => zq_nt r n
theorem zq_nt_eq {α : Type} : ∀ (l : List α) (n : Nat), zq_nt l n = l[n]?
  | [], n => by simp [zq_nt]
  | a :: l, 0 => by simp [zq_nt]
  | a :: l, n + 1 => by simp [zq_nt, zq_nt_eq l n]
def zq_hs (f : Nat → Int32) : Nat → List (Option Nat) → List Value
  | _, [] => []
  | i, none :: r => .int (f i) :: zq_hs f (i + 1) r
  | i, some o :: r => .ref o :: zq_hs f (i + 1) r
def zq_hd (f : Nat → Int32) : (Bool × Nat) ⊕ (Nat × List (Option Nat)) → zq_E
  | .inl q => .inl (q.1, q.2, f)
  | .inr q => .inr (q.1, zq_hs f 0 q.2)
def zq_hl (M : zq_M) : Nat → List ((Bool × Nat) ⊕ (Nat × List (Option Nat))) → List zq_E
  | _, [] => []
  | i, d :: r => zq_hd (M i) d :: zq_hl M (i + 1) r
def zq_rp (M : zq_M) : List zq_E := zq_hl M 0 zq_sh
theorem zq_hs_get (f : Nat → Int32) : ∀ (sl : List (Option Nat)) (i k : Nat), (zq_hs f i sl)[k]? = (sl[k]?).map (fun s => match s with
    | none => Value.int (f (i + k))
    | some o => Value.ref o)
  | [], i, k => by simp [zq_hs]
  | none :: r, i, 0 => by simp [zq_hs]
  | some o :: r, i, 0 => by simp [zq_hs]
  | none :: r, i, k + 1 => by
    simp only [zq_hs, List.getElem?_cons_succ, zq_hs_get f r (i + 1) k, show i + 1 + k = i + (k + 1) by omega]
  | some o :: r, i, k + 1 => by
    simp only [zq_hs, List.getElem?_cons_succ, zq_hs_get f r (i + 1) k, show i + 1 + k = i + (k + 1) by omega]
theorem zq_hs_len (f : Nat → Int32) : ∀ (sl : List (Option Nat)) (i : Nat), (zq_hs f i sl).length = sl.length
  | [], i => rfl
  | none :: r, i => by simp [zq_hs, zq_hs_len f r]
  | some o :: r, i => by simp [zq_hs, zq_hs_len f r]
theorem zq_hs_set (f : Nat → Int32) (v : Int32) : ∀ (sl : List (Option Nat)) (i k : Nat), sl[k]? = some none → (zq_hs f i sl).set k (.int v) = zq_hs (upd f (i + k) v) i sl
  | [], i, k, h => by simp at h
  | none :: r, i, 0, h => by
    have e : ∀ (r : List (Option Nat)) (j : Nat), i < j → zq_hs (upd f i v) j r = zq_hs f j r := by
      intro r
      induction r with
      | nil => intro j _; rfl
      | cons s r ih =>
        intro j hj
        cases s with
        | none => simp only [zq_hs, ih (j + 1) (by omega)]; rw [pk_un (by omega)]
        | some o => simp only [zq_hs, ih (j + 1) (by omega)]
    simp only [zq_hs, List.set_cons_zero, Nat.add_zero, pk_us]
    rw [e r (i + 1) (by omega)]
  | some o :: r, i, 0, h => by simp at h
  | none :: r, i, k + 1, h => by
    simp only [zq_hs, List.set_cons_succ, zq_hs_set f v r (i + 1) k (by simpa using h), show i + 1 + k = i + (k + 1) by omega]
    rw [pk_un (by omega)]
  | some o :: r, i, k + 1, h => by
    simp only [zq_hs, List.set_cons_succ, zq_hs_set f v r (i + 1) k (by simpa using h), show i + 1 + k = i + (k + 1) by omega]
theorem zq_hl_get (M : zq_M) : ∀ (sh : List ((Bool × Nat) ⊕ (Nat × List (Option Nat)))) (i k : Nat), (zq_hl M i sh)[k]? = (sh[k]?).map (fun d => zq_hd (M (i + k)) d)
  | [], i, k => by simp [zq_hl]
  | d :: r, i, 0 => by simp [zq_hl]
  | d :: r, i, k + 1 => by
    simp only [zq_hl, List.getElem?_cons_succ, zq_hl_get M r (i + 1) k, show i + 1 + k = i + (k + 1) by omega]
theorem zq_hl_len (M : zq_M) : ∀ (sh : List ((Bool × Nat) ⊕ (Nat × List (Option Nat)))) (i : Nat), (zq_hl M i sh).length = sh.length
  | [], i => rfl
  | d :: r, i => by simp [zq_hl, zq_hl_len M r]
theorem zq_rp_get {M : zq_M} {c : Nat} {d : (Bool × Nat) ⊕ (Nat × List (Option Nat))} (h : zq_sh[c]? = some d) : (zq_rp M)[c]? = some (zq_hd (M c) d) := by
  unfold zq_rp
  rw [zq_hl_get, h, Option.map_some, Nat.zero_add]
theorem zq_rp_set {M : zq_M} {c : Nat} {f : Nat → Int32} {d : (Bool × Nat) ⊕ (Nat × List (Option Nat))} (h : zq_sh[c]? = some d) : zq_rp (zq_ma M c f) = (zq_rp M).set c (zq_hd f d) := by
  unfold zq_rp
  apply List.ext_getElem?
  intro k
  rw [zq_hl_get, List.getElem?_set, zq_hl_get, zq_hl_len, Nat.zero_add]
  by_cases e : c = k
  · subst e
    have hlt : c < zq_sh.length := (List.getElem?_eq_some_iff.mp h).1
    rw [if_pos rfl, if_pos hlt, h, Option.map_some]
    simp [zq_ma]
  · rw [if_neg e]
    congr 1
    funext d
    simp [zq_ma, Ne.symm e]
/-- a row of the memory -/
def zq_an (a : Nat) : Option (Bool × Nat) := match zq_nt zq_sh a with
  | some (.inl q) => some q
  | _ => none
def zq_oM : zq_O zq_M :=
  (fun M aux o => match Nat.beq o (zq_ix aux 3) with
    | true => match zq_ix aux 4 with
      | 0 => some (.int (M o (zq_ix aux 1)))
      | r + 1 => some (.ref r)
    | false => none,
   fun M aux o v => match Nat.beq o (zq_ix aux 3), zq_ix aux 4, v with
    | true, 0, .int u => some (zq_mu M o (zq_ix aux 1) u)
    | _, _, _ => none,
   fun M a => match zq_an a with
    | some (b, n) => some (b, n, M a)
    | none => none,
   fun M a f => zq_ma M a f,
   fun _ _ => none,
   fun _ _ _ => none,
   fun _ o => match zq_nt zq_sh o with
    | some (.inr q) => some q.1
    | _ => none)
theorem zq_an_of {a : Nat} {q : Bool × Nat} (h : zq_an a = some q) : zq_sh[a]? = some (.inl q) := by
  unfold zq_an at h
  split at h
  · next q' hq => cases h; rw [← zq_nt_eq]; exact hq
  · cases h
theorem zq_ax_of {aux : List Nat} (h : zq_ax aux = true) : ∃ sl s, zq_sh[zq_ix aux 3]? = some (.inr (zq_ix aux 0, sl)) ∧ sl[zq_ix aux 1]? = some s ∧ ((s = none ∧ zq_ix aux 4 = 0) ∨ ∃ r, s = some r ∧ zq_ix aux 4 = r + 1) := by
  unfold zq_ax at h
  split at h
  · next q hq =>
    rw [Bool.and_eq_true] at h
    obtain ⟨h1, h2⟩ := h
    have h1 := Nat.eq_of_beq_eq_true h1
    split at h2
    · next hs => exact ⟨q.2, none, by rw [hq, h1], hs, Or.inl ⟨rfl, Nat.eq_of_beq_eq_true h2⟩⟩
    · next r hs => exact ⟨q.2, some r, by rw [hq, h1], hs, Or.inr ⟨r, rfl, Nat.eq_of_beq_eq_true h2⟩⟩
    · cases h2
  · cases h
theorem zq_lM : zq_lw zq_rp zq_oM := by
  refine ⟨?_, ?_, ?_, ?_, ?_, ?_, ?_⟩
  · intro M aux o v hax h
    obtain ⟨sl, s, h1, h2, h3⟩ := zq_ax_of hax
    replace h : (match (generalizing := false) Nat.beq o (zq_ix aux 3) with
      | true => match zq_ix aux 4 with
        | 0 => some (.int (M o (zq_ix aux 1)))
        | r + 1 => some (.ref r)
      | false => none) = some v := h
    split at h
    · next hb =>
      have hb := Nat.eq_of_beq_eq_true hb
      rw [← hb] at h1
      refine ⟨_, zq_rp_get h1, ?_⟩
      rw [zq_hs_get, h2, Option.map_some, Nat.zero_add]
      rcases h3 with ⟨rfl, h4⟩ | ⟨r, rfl, h4⟩
      · rw [h4] at h; exact h
      · rw [h4] at h; exact h
    · cases h
  · intro M aux o v M' hax h
    obtain ⟨sl, s, h1, h2, h3⟩ := zq_ax_of hax
    replace h : (match (generalizing := false) Nat.beq o (zq_ix aux 3), zq_ix aux 4, v with
      | true, 0, .int u => some (zq_mu M o (zq_ix aux 1) u)
      | _, _, _ => none) = some M' := h
    split at h
    · next hb h4 =>
      have hb := Nat.eq_of_beq_eq_true hb
      rw [← hb] at h1
      cases h
      rcases h3 with ⟨rfl, _⟩ | ⟨r, rfl, h5⟩
      · refine ⟨_, zq_rp_get h1, by rw [zq_hs_len]; exact (List.getElem?_eq_some_iff.mp h2).1, ?_⟩
        unfold zq_mu
        rw [zq_rp_set h1, zq_hs_set _ _ _ _ _ h2, Nat.zero_add]
        rfl
      · omega
    · cases h
  · intro M a y h
    replace h : (match (generalizing := false) zq_an a with
      | some (b, n) => some (b, n, M a)
      | none => none) = some y := h
    split at h
    · next b n hq => cases h; exact zq_rp_get (zq_an_of hq)
    · cases h
  · intro M a y f h
    replace h : (match (generalizing := false) zq_an a with
      | some (b, n) => some (b, n, M a)
      | none => none) = some y := h
    split at h
    · next b n hq => cases h; exact zq_rp_set (zq_an_of hq)
    · cases h
  · intro M ci o M' h; cases h
  · intro M b n a M' h; cases h
  · intro M o ci h
    replace h : (match (generalizing := false) zq_nt zq_sh o with
      | some (.inr q) => some q.1
      | _ => none) = some ci := h
    split at h
    · next q hq =>
      cases h
      rw [zq_nt_eq] at hq
      exact ⟨_, zq_rp_get hq⟩
    · cases h
/-- method k at pc, over the memory M -/
abbrev mx (g : zq_G) (d k pc : Nat) (ls st : List Value) (M : zq_M) (Q : Option Value → zq_M → Prop) : Prop := zq_x g zq_rp d k pc ls st (0, 0) M Q
theorem mx_go {g : zq_G} {t : zq_T} {k d pc : Nat} {Q : Option Value → zq_M → Prop} {ls st : List Value} {M : zq_M} (n : Nat) (ht : zq_mt[k]? = some t) (h : zq_wp g zq_oM zq_rp t.2.2.2.2.1 t.2.2.2.1 t.2.2.2.2.2.1 d k Q n (zq_sf t.2.2.2.2.1 pc) ls st (0, 0) M) : mx g d k pc ls st M Q := zq_go zq_lM ht n h
