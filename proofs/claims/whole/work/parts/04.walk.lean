/-! THE WALK AS A FUNCTION. A method's instructions are a list; zq_st does one of them on abstract locals, stack and memory and says what is left to show; zq_ok (below) says that the machine does the same. -/
abbrev zq_G : Type := Launch × va_G × ClassId × ClassId × (Nat → Nat) × Nat × Nat × (Nat → Int32) × (Nat → Nat)
abbrev zq_l (g : zq_G) : Launch := g.1
abbrev zq_D (g : zq_G) : va_G := g.2.1
abbrev zq_cI (g : zq_G) : ClassId := g.2.2.1
abbrev zq_cZ (g : zq_G) : ClassId := g.2.2.2.1
abbrev zq_ad (g : zq_G) : Nat → Nat := g.2.2.2.2.1
abbrev zq_B (g : zq_G) : Nat := g.2.2.2.2.2.1
abbrev zq_L (g : zq_G) : Nat := g.2.2.2.2.2.2.1
abbrev zq_xs (g : zq_G) : Nat → Int32 := g.2.2.2.2.2.2.2.1
abbrev zq_av (g : zq_G) : Nat → Nat := g.2.2.2.2.2.2.2.2
abbrev zq_ty (g : zq_G) : List (ClassId × FieldType) := [(zq_cI g, .int), (zq_cZ g, .boolean)]
abbrev zq_F (g : zq_G) : Nat → Prop := fun q => zq_B g ≤ q
/-- an abstract value is the value, but a reference is the number of a cell -/
def zq_c (g : zq_G) : Value → Value
  | .ref k => .ref (zq_ad g k)
  | v => v
def zq_ce (g : zq_G) : zq_E → va_E
  | .inl a => .inl (bif a.1 then zq_cZ g else zq_cI g, a.2.1, .inl a.2.2)
  | .inr o => .inr (o.1, o.2.map (zq_c g))
def zq_w (g : zq_G) : Nat → List zq_E → va_W
  | _, [] => []
  | i, e :: h => (zq_ad g i, zq_ce g e) :: zq_w g (i + 1) h
theorem zq_w_get (g : zq_G) : ∀ (h : List zq_E) (i k : Nat), (zq_w g i h)[k]? = (h[k]?).map (fun e => (zq_ad g (i + k), zq_ce g e))
  | [], i, k => by simp [zq_w]
  | e :: h, i, 0 => by simp [zq_w]
  | e :: h, i, k + 1 => by
    rw [zq_w, List.getElem?_cons_succ, List.getElem?_cons_succ, zq_w_get g h (i + 1) k, show i + 1 + k = i + (k + 1) by omega]
theorem zq_w_at {g : zq_G} {h : List zq_E} {k : Nat} {e : zq_E} (hk : h[k]? = some e) : (zq_w g 0 h)[k]? = some (zq_ad g k, zq_ce g e) := by
  rw [zq_w_get, hk, Option.map_some, Nat.zero_add]
theorem zq_w_set (g : zq_G) (e : zq_E) : ∀ (h : List zq_E) (i k : Nat), (zq_w g i h).set k (zq_ad g (i + k), zq_ce g e) = zq_w g i (h.set k e)
  | [], i, k => by simp [zq_w]
  | e' :: h, i, 0 => by simp [zq_w]
  | e' :: h, i, k + 1 => by
    rw [zq_w, List.set_cons_succ, List.set_cons_succ, zq_w, ← zq_w_set g e h (i + 1) k, show i + 1 + k = i + (k + 1) by omega]
theorem zq_w_app (g : zq_G) (e : zq_E) : ∀ (h : List zq_E) (i : Nat), zq_w g i (h ++ [e]) = zq_w g i h ++ [(zq_ad g (i + h.length), zq_ce g e)]
  | [], i => by simp [zq_w]
  | e' :: h, i => by
    rw [List.cons_append, zq_w, zq_w_app g e h (i + 1), zq_w, List.cons_append, List.length_cons, show i + 1 + h.length = i + (h.length + 1) by omega]
theorem zq_wD {g : zq_G} {h : List zq_E} (ha : ∀ k, k < 1000 → zq_ad g k = zq_B g + k) (hl : h.length ≤ 999) : va_D (zq_F g) (zq_w g 0 h) := by
  have key : ∀ (i : Nat) (p : Nat × va_E), (zq_w g 0 h)[i]? = some p → i < h.length ∧ p.1 = zq_B g + i := by
    intro i p hp
    rw [zq_w_get] at hp
    cases hi : h[i]? with
    | none => rw [hi] at hp; cases hp
    | some e =>
      rw [hi] at hp
      have hlt : i < h.length := (List.getElem?_eq_some_iff.mp hi).1
      cases hp
      exact ⟨hlt, by show zq_ad g (0 + i) = _; rw [Nat.zero_add, ha i (by omega)]⟩
  refine ⟨fun i j p q hi hj e => ?_, fun k q hk => ?_⟩
  · have h1 := (key i p hi).2
    have h2 := (key j q hj).2
    omega
  · have h1 := (key k q hk).2
    show zq_B g ≤ q.1
    omega
/-! locals -/
def zq_lv (g : zq_G) : Nat → List Value → List (Nat × Value)
  | _, [] => []
  | i, v :: r => if v = .null then zq_lv g (i + 1) r else (i, zq_c g v) :: zq_lv g (i + 1) r
theorem zq_lv_mem (g : zq_G) : ∀ (ls : List Value) (i : Nat) (q : Nat × Value), q ∈ zq_lv g i ls ↔ ∃ (j : Nat) (v : Value), ls[j]? = some v ∧ v ≠ .null ∧ q = (i + j, zq_c g v)
  | [], i, q => by simp [zq_lv]
  | w :: r, i, q => by
    rw [zq_lv]
    by_cases hw : w = .null
    · rw [if_pos hw, zq_lv_mem g r (i + 1) q]
      constructor
      · rintro ⟨j, v, h1, h2, h3⟩
        exact ⟨j + 1, v, by simpa using h1, h2, by rw [h3, show i + 1 + j = i + (j + 1) by omega]⟩
      · rintro ⟨j, v, h1, h2, h3⟩
        cases j with
        | zero => simp at h1; exact absurd (h1.symm.trans hw) h2
        | succ j => exact ⟨j, v, by simpa using h1, h2, by rw [h3, show i + 1 + j = i + (j + 1) by omega]⟩
    · rw [if_neg hw, List.mem_cons, zq_lv_mem g r (i + 1) q]
      constructor
      · rintro (h | ⟨j, v, h1, h2, h3⟩)
        · exact ⟨0, w, rfl, hw, h⟩
        · exact ⟨j + 1, v, by simpa using h1, h2, by rw [h3, show i + 1 + j = i + (j + 1) by omega]⟩
      · rintro ⟨j, v, h1, h2, h3⟩
        cases j with
        | zero => simp at h1; left; rw [h3, ← h1]; rfl
        | succ j => exact Or.inr ⟨j, v, by simpa using h1, h2, by rw [h3, show i + 1 + j = i + (j + 1) by omega]⟩
def zq_at : List Value → Nat → Value
  | [], _ => .null
  | v :: _, 0 => v
  | _ :: r, n + 1 => zq_at r n
def zq_se : List Value → Nat → Value → List Value
  | [], _, _ => []
  | _ :: r, 0, v => v :: r
  | w :: r, n + 1, v => w :: zq_se r n v
/-- a store takes away the long that reaches into the place -/
def zq_kl (ls : List Value) : Nat → List Value
  | 0 => ls
  | j + 1 => match zq_at ls j with
    | .long _ => zq_se ls j .null
    | .double _ => zq_se ls j .null
    | _ => ls
theorem zq_at_get : ∀ (ls : List Value) (i : Nat) (v : Value), zq_at ls i = v → v ≠ .null → ls[i]? = some v
  | [], i, v, h, hv => absurd h.symm hv
  | w :: r, 0, v, h, hv => by simpa [zq_at] using h
  | w :: r, i + 1, v, h, hv => by simpa using zq_at_get r i v h hv
theorem zq_se_get : ∀ (ls : List Value) (i : Nat) (v : Value) (j : Nat), (zq_se ls i v)[j]? = if j = i then (if i < ls.length then some v else none) else ls[j]?
  | [], i, v, j => by simp [zq_se]
  | w :: r, 0, v, 0 => by simp [zq_se]
  | w :: r, 0, v, j + 1 => by simp [zq_se]
  | w :: r, i + 1, v, 0 => by simp [zq_se]
  | w :: r, i + 1, v, j + 1 => by
    simp only [zq_se, List.getElem?_cons_succ, zq_se_get r i v j, List.length_cons]
    by_cases h : j = i
    · subst h; simp
    · rw [if_neg h, if_neg (by omega)]
theorem zq_kl_get (ls : List Value) (i j : Nat) (v : Value) (h : (zq_kl ls i)[j]? = some v) (hv : v ≠ .null) : ls[j]? = some v ∧ ¬ (j + 1 = i ∧ v.category = 2) := by
  cases i with
  | zero => exact ⟨h, by omega⟩
  | succ i =>
    have plain : ls[j]? = some v → (∀ w, zq_at ls i = w → w.category = 1) → ls[j]? = some v ∧ ¬ (j + 1 = i + 1 ∧ v.category = 2) := by
      intro h1 h2
      refine ⟨h1, fun ⟨e, hc⟩ => ?_⟩
      have e : j = i := by omega
      subst e
      have : zq_at ls j = v := by
        have : ∀ (l : List Value) (n : Nat), l[n]? = some v → zq_at l n = v := by
          intro l
          induction l with
          | nil => intro n h; simp at h
          | cons a l ih => intro n h; cases n with
            | zero => simpa [zq_at] using h
            | succ n => exact ih n (by simpa using h)
        exact this ls j h1
      have h3 := h2 v this
      omega
    have killed : (zq_se ls i .null)[j]? = some v → ls[j]? = some v ∧ ¬ (j + 1 = i + 1 ∧ v.category = 2) := by
      intro h1
      rw [zq_se_get] at h1
      by_cases e : j = i
      · rw [if_pos e] at h1
        split at h1
        · cases h1; exact absurd rfl hv
        · cases h1
      · rw [if_neg e] at h1
        exact ⟨h1, by omega⟩
    have h : (match zq_at ls i with
      | .long _ => zq_se ls i .null
      | .double _ => zq_se ls i .null
      | _ => ls)[j]? = some v := h
    split at h
    · exact killed h
    · exact killed h
    · next h1 h2 => 
      refine plain h (fun w hw => ?_)
      cases w with
      | long v => exact absurd hw (h1 v)
      | double v => exact absurd hw (h2 v)
      | _ => rfl
/-- arguments as locals -/
def zq_fl : List Value → List Value
  | [] => []
  | .long v :: r => .long v :: .null :: zq_fl r
  | .double v :: r => .double v :: .null :: zq_fl r
  | v :: r => v :: zq_fl r
def zq_pd : Nat → List Value → List Value
  | 0, l => l
  | n + 1, [] => .null :: zq_pd n []
  | n + 1, v :: r => v :: zq_pd n r
def zq_mk : List Bool → List Value → List Value
  | true :: b, v :: l => v :: zq_mk b l
  | false :: b, _ :: l => .null :: zq_mk b l
  | _, _ => []
/-! abstract stacks: n arguments, the rest -/
def zq_sp : Nat → List Value → List Value → Option (List Value × List Value)
  | 0, acc, st => some (acc, st)
  | n + 1, acc, v :: st => zq_sp n (v :: acc) st
  | _ + 1, _, [] => none
def zq_cat (st : List Value) : Nat := (st.map fun v => v.category).sum
/-! what is read only: 1000 the script, 1001 .. the static rows, 2000 .. the texts -/
def zq_rl (g : zq_G) : Nat → Nat
  | 0 => zq_L g
  | j + 1 => (zq_sv.getD j []).length
def zq_rf (g : zq_G) : Nat → Nat → Int32
  | 0 => zq_xs g
  | j + 1 => fun i => (zq_sv.getD j []).getD i 0
def zq_ro (g : zq_G) (U : State) (H : Heap) : Prop :=
  (∀ j, j < 6 → va_X (zq_ad g (1000 + j)) (zq_rl g j) (zq_rf g j) U H ∧ zq_ad g (1000 + j) < zq_B g) ∧
  (∀ j, j < 5 → va_Z "WalkingStones" (zq_sn.getD j "") "[I" (.ref (zq_ad g (1001 + j))) (zq_F g) U H) ∧
  (∀ q ∈ zq_nm, va_Nw (.methodLinkNest q.1 q.2.1 q.2.2.1 q.2.2.2) U) ∧
  (∀ q ∈ zq_nf, va_Nw (.fieldLinkNest q.1 q.2.1 q.2.2.1 q.2.2.2.1 q.2.2.2.2.1 q.2.2.2.2.2) U) ∧
  vk_S 12 zq_sl zq_sb (fun i => zq_ad g (2000 + i)) (zq_av g) (zq_F g) U H ∧
  (∀ i q, zq_ss[i]? = some q → vk_R q.1 q.2.1 q.2.2 (zq_ad g (2000 + i)) U) ∧
  va_Z "java/lang/String" "COMPACT_STRINGS" "Z" (.int 1) (zq_F g) U H ∧
  va_Zq "jdk/internal/util/Preconditions" "SIOOBE_FORMATTER" "Ljava/util/function/BiFunction;" (zq_F g) U H
theorem zq_ro.go {g : zq_G} {s U : State} {H : Heap} (h : zq_ro g s s.heap) (hB : zq_B g ≤ s.heap.size) (hW : s.WarmedH U.vm) (hH : ∀ q : Nat, q < s.heap.size → ¬ zq_F g q → H[q]? = s.heap[q]?) : zq_ro g U H := by
  obtain ⟨h1, h2, h3, h4, h5, h6, h7, h8⟩ := h
  refine ⟨fun j hj => ⟨((h1 j hj).1.kept (hH _ ?_ ?_)).moved hW.alike, (h1 j hj).2⟩, fun j hj => ((h2 j hj).kept hH).moved hW.alike, fun q hq => (h3 q hq).warmM hW, fun q hq => (h4 q hq).warmF hW, (h5.kept hH).moved hW.alike, fun i q hq => (h6 i q hq).warm hW, (h7.kept hH).moved hW.alike, (h8.kept hH).moved hW.alike⟩
  · have := (h1 j hj).2
    omega
  · have := (h1 j hj).2
    show ¬ zq_B g ≤ _
    omega
/-! judgements -/
def zq_wd (g : zq_G) (s : State) (cs : Nat × Nat) (h : List zq_E) (H : Heap) (locs : List Loc) : Prop :=
  h.length ≤ 999 ∧ s.heap.size + cs.1 ≤ zq_B g + h.length ∧ va_P (zq_D g) vwCl (zq_w g 0 h) H ∧ va_S (zq_F g) s.heap H locs
def zq_act (g : zq_G) (t : zq_T) (d : Nat) (p : Program) (R : Room) (s : State) (m : MethodId) (args : Array Value) (meth : Method) (c : Code) : Prop :=
  (d ≤ R.frames ∧ 64 * d ≤ R.locals ∧ t.2.2.2.2.2.1.1 ≤ R.cells ∧ t.2.2.2.2.2.1.2 ≤ R.slots) ∧ p.tables.exec = Jvm.exec ∧ c.code = t.2.1 ∧ meth.sig.returnType = t.2.2.2.1 ∧ c.maxLocals = t.2.2.1 ∧ s.vm.findClass t.1.cls = some m.cls ∧ (∀ w ∈ zq_tb, w.before args s = true) ∧ meth.locks = false ∧ (t.1.name = "<init>" → meth.name = "<init>") ∧ va_K (zq_D g) vwCl (zq_ty g) s ∧ zq_ro g s s.heap ∧ zq_B g ≤ s.heap.size ∧ ∀ k, k < 1000 → zq_ad g k = zq_B g + k
/-- an instruction that ends the method with this answer -/
def zq_rk (t : zq_T) (r : Option Value) (pc : Nat) : Prop := match r with
  | none => decode t.2.1 pc = .ok (.return_, 1) ∧ t.2.2.2.1 = none
  | some (.int v) => decode t.2.1 pc = .ok (.ireturn, 1) ∧ ∃ ty, t.2.2.2.1 = some ty ∧ narrow ty (.int v) = .int v
  | some (.long _) => decode t.2.1 pc = .ok (.lreturn, 1) ∧ t.2.2.2.1 = some .long
  | _ => False
def zq_rt (g : zq_G) (t : zq_T) (p : Program) (e : Env) (R : Room) (s : State) (m : MethodId) (args : Array Value) (below : List Frame) (meth : Method) (c : Code) (Q : Option Value → List zq_E → Prop) (Z : State → Prop) : Prop :=
  ∀ (r : Option Value) (h : List zq_E) (H : Heap) (locs : List Loc) (la : Array Slot) (pc : Nat) (cs : Nat × Nat), Q r h → zq_rk t r pc → zq_wd g s cs h H locs → cs.1 = t.2.2.2.2.2.1.1 → cs.2 ≤ t.2.2.2.2.2.1.2 →
    W p (zq_l g) e R s m args below meth c H locs cs.1 cs.2 Z (F0 m pc la ((r.map (zq_c g)).toList))
/-- method k, at depth d, at pc: it goes on and ends with an answer and cells that Q has -/
def zq_g (g : zq_G) (d k pc : Nat) (ls st : List Value) (cs : Nat × Nat) (h : List zq_E) (Q : Option Value → List zq_E → Prop) : Prop :=
  ∀ t, zq_mt[k]? = some t → ∀ (p : Program) (e : Env) (R : Room) (s : State) (m : MethodId) (args : Array Value) (below : List Frame) (meth : Method) (c : Code) (Z : State → Prop), zq_act g t d p R s m args meth c → zq_rt g t p e R s m args below meth c Q Z →
    ∀ (H : Heap) (locs : List Loc) (la : Array Slot), zq_wd g s cs h H locs → lv_has la t.2.2.1 (zq_lv g 0 ls) → W p (zq_l g) e R s m args below meth c H locs cs.1 cs.2 Z (F0 m pc la (st.map (zq_c g)))
theorem zq_g.mono {g : zq_G} {d k pc : Nat} {ls st : List Value} {cs : Nat × Nat} {h : List zq_E} {Q Q' : Option Value → List zq_E → Prop} (hq : ∀ r h, Q r h → Q' r h) (hg : zq_g g d k pc ls st cs h Q) : zq_g g d k pc ls st cs h Q' :=
  fun t ht p e R s m args below meth c Z ha hr => hg t ht p e R s m args below meth c Z ha (fun r h H locs la pc cs h1 h2 h3 h4 h5 => hr r h H locs la pc cs (hq r h h1) h2 h3 h4 h5)
/-- memory: a kind of memory, what cells it stands for, how it is read and written -/
abbrev zq_O (X : Type) : Type := (X → List Nat → Nat → Option Value) × (X → List Nat → Nat → Value → Option X) × (X → Nat → Option zq_A) × (X → Nat → (Nat → Int32) → X) × (X → Nat → Option (Nat × X)) × (X → Bool → Nat → Option (Nat × X)) × (X → Nat → Option Nat)
def zq_x {X : Type} (g : zq_G) (rep : X → List zq_E) (d k pc : Nat) (ls st : List Value) (cs : Nat × Nat) (x : X) (Q : Option Value → X → Prop) : Prop :=
  zq_g g d k pc ls st cs (rep x) (fun r h => ∃ x', h = rep x' ∧ Q r x')
