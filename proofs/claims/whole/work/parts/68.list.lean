/-! the constructors: cells as a list -/
def zq_oL : zq_O (List zq_E) :=
  (fun x aux o => match zq_nt x o with
    | some (.inr q) => match Nat.beq q.1 (zq_ix aux 0) with
      | true => zq_nt q.2 (zq_ix aux 1)
      | false => none
    | _ => none,
   fun x aux o v => match zq_nt x o with
    | some (.inr q) => match Nat.beq q.1 (zq_ix aux 0), Nat.blt (zq_ix aux 1) q.2.length with
      | true, true => some (x.set o (.inr (q.1, q.2.set (zq_ix aux 1) v)))
      | _, _ => none
    | _ => none,
   fun x a => match zq_nt x a with
    | some (.inl y) => some y
    | _ => none,
   fun x a f => match zq_nt x a with
    | some (.inl y) => x.set a (.inl (y.1, y.2.1, f))
    | _ => x,
   fun x ci => match zq_nt zq_df ci, Nat.blt x.length 999 with
    | some fs, true => some (x.length, x ++ [.inr (ci, fs)])
    | _, _ => none,
   fun x b n => match Nat.blt x.length 999 with
    | true => some (x.length, x ++ [.inl (b, n, fun _ => 0)])
    | false => none,
   fun x o => match zq_nt x o with
    | some (.inr q) => some q.1
    | _ => none)
theorem zq_blt {a b : Nat} (h : Nat.blt a b = true) : a < b := Nat.le_of_ble_eq_true h
theorem zq_lL : zq_lw (fun x : List zq_E => x) zq_oL := by
  refine ⟨?_, ?_, ?_, ?_, ?_, ?_, ?_⟩
  · intro x aux o v _ h
    replace h : (match (generalizing := false) zq_nt x o with
      | some (.inr q) => match Nat.beq q.1 (zq_ix aux 0) with
        | true => zq_nt q.2 (zq_ix aux 1)
        | false => none
      | _ => none) = some v := h
    split at h
    · next q hq =>
      split at h
      · next hb =>
        rw [zq_nt_eq] at hq h
        have e := Nat.eq_of_beq_eq_true hb
        exact ⟨q.2, by rw [← e]; exact hq, h⟩
      · cases h
    · cases h
  · intro x aux o v x' _ h
    replace h : (match (generalizing := false) zq_nt x o with
      | some (.inr q) => match Nat.beq q.1 (zq_ix aux 0), Nat.blt (zq_ix aux 1) q.2.length with
        | true, true => some (x.set o (.inr (q.1, q.2.set (zq_ix aux 1) v)))
        | _, _ => none
      | _ => none) = some x' := h
    split at h
    · next q hq =>
      split at h
      · next hb hl =>
        rw [zq_nt_eq] at hq
        have e := Nat.eq_of_beq_eq_true hb
        cases h
        exact ⟨q.2, by rw [← e]; exact hq, zq_blt hl, by rw [← e]⟩
      · cases h
    · cases h
  · intro x a y h
    replace h : (match (generalizing := false) zq_nt x a with
      | some (.inl y) => some y
      | _ => none) = some y := h
    split at h
    · next y' hq => cases h; rw [zq_nt_eq] at hq; exact hq
    · cases h
  · intro x a y f h
    replace h : (match (generalizing := false) zq_nt x a with
      | some (.inl y) => some y
      | _ => none) = some y := h
    split at h
    · next y' hq =>
      cases h
      show (match (generalizing := false) zq_nt x a with
        | some (.inl y) => x.set a (.inl (y.1, y.2.1, f))
        | _ => x) = _
      rw [hq]
    · cases h
  · intro x ci o x' h
    replace h : (match (generalizing := false) zq_nt zq_df ci, Nat.blt x.length 999 with
      | some fs, true => some (x.length, x ++ [.inr (ci, fs)])
      | _, _ => none) = some (o, x') := h
    split at h
    · next fs hq hl => cases h; rw [zq_nt_eq] at hq; exact ⟨fs, hq, rfl, rfl, zq_blt hl⟩
    · cases h
  · intro x b n a x' h
    replace h : (match (generalizing := false) Nat.blt x.length 999 with
      | true => some (x.length, x ++ [.inl (b, n, fun _ => 0)])
      | false => none) = some (a, x') := h
    split at h
    · next hl => cases h; exact ⟨rfl, rfl, zq_blt hl⟩
    · cases h
  · intro x o ci h
    replace h : (match (generalizing := false) zq_nt x o with
      | some (.inr q) => some q.1
      | _ => none) = some ci := h
    split at h
    · next q hq => cases h; rw [zq_nt_eq] at hq; exact ⟨q.2, hq⟩
    · cases h
/-- method k at pc, over a list of cells -/
abbrev cx (g : zq_G) (d k pc : Nat) (ls st : List Value) (cs : Nat × Nat) (x : List zq_E) (Q : Option Value → List zq_E → Prop) : Prop := zq_x g (fun x : List zq_E => x) d k pc ls st cs x Q
theorem cx_go {g : zq_G} {t : zq_T} {k d pc : Nat} {Q : Option Value → List zq_E → Prop} {ls st : List Value} {cs : Nat × Nat} {x : List zq_E} (n : Nat) (ht : zq_mt[k]? = some t) (h : zq_wp g zq_oL (fun x : List zq_E => x) t.2.2.2.2.1 t.2.2.2.1 t.2.2.2.2.2.1 d k Q n (zq_sf t.2.2.2.2.1 pc) ls st cs x) : cx g d k pc ls st cs x Q := zq_go zq_lL ht n h

