/-! ===== the world of whole: abstract addresses, one memory of whole numbers ===== -/
abbrev xD : Type := Nat → Nat → Int
abbrev xR : Type := Nat → Nat → Option Nat
/-- class numbers and slots; array classes; the specials' addresses; the first own address -/
abbrev xW : Type := va_G × (Nat → ClassId) × (Nat → Nat) × Nat
abbrev vi (e : Int) : Value := .int (Int32.ofInt e)
abbrev vl (e : Int) : Value := .long (Int64.ofInt e)
def xad (ω : xW) (k : Nat) : Nat := if k < 4 then ω.2.2.1 k else ω.2.2.2 + (k - 4)
def xtr (ω : xW) : Value → Value
  | .ref k => .ref (xad ω k)
  | v => v
def xN : Nat → Nat
  | 0 => 3 | 1 => 7 | 2 => 17 | 3 => 10 | 4 => 6 | _ => 12
def xty : Nat → Nat → FieldType
  | 0 => tyX0 | 1 => tyX1 | 2 => tyX2 | 3 => tyX3 | 4 => tyX4 | _ => tyX5
def xkd : FieldType → Nat
  | .long => 1 | .object _ => 2 | .array _ => 2 | _ => 0
def xwsh (i : Nat) : Nat × Nat := if i = 0 then (3, 0) else if i = 1 then (10, 9) else if i = 2 then (10, 4) else if i = 3 then (15, 10) else if (i - 4) % 3 = 0 then (2, 0) else (10, 12)
/-- the kind of each cell (0 to 5: an object of that class; 10 int[], 11 long[], 12 char[], 13 boolean[], 14 Works[], 15 Product[]) and its length -/
def xSH (k : Nat) : Nat × Nat :=
  if k < 4 then (10, 9) else if k = 4 then (4, 0) else if k < 73 then xwsh ((k - 5) % 34) else if k = 73 then (1, 0) else if k = 74 then (12, 80)
  else if k = 75 then (0, 0) else if k = 76 then (14, 6) else if k < 281 then xwsh ((k - 77) % 34) else if k = 281 then (14, 2) else if k = 282 then (13, 2)
  else if k < 351 then xwsh ((k - 283) % 34) else (10, 0)
def xfv (ω : xW) (ci : Nat) (D : xD) (r : xR) (a j : Nat) : Value := match xkd (xty ci j) with
  | 0 => vi (D a j)
  | 1 => vl (D a j)
  | _ => va_rf ((r a j).map (xad ω))
def xarr (ω : xW) (c : Nat) (D : xD) (r : xR) (k : Nat) : (Nat → Int32) ⊕ (Nat → Int64) ⊕ (Nat → UInt32) ⊕ (Nat → UInt64) ⊕ (Nat → Option Nat) :=
  if c = 11 then .inr (.inl fun j => Int64.ofInt (D k j)) else if c < 14 then .inl (fun j => Int32.ofInt (D k j)) else .inr (.inr (.inr (.inr fun j => (r k j).map (xad ω))))
def xent (ω : xW) (D : xD) (r : xR) (k : Nat) : va_E :=
  if (xSH k).1 < 5 then .inr ((xSH k).1, (List.range (xN (xSH k).1)).map (xfv ω (xSH k).1 D r k))
  else .inl (ω.2.1 (xSH k).1, ((xSH k).2, xarr ω (xSH k).1 D r k))
def xws (ω : xW) (n : Nat) (D : xD) (r : xR) : va_W := (List.range (n - 4)).map (fun i => (xad ω (i + 4), xent ω D r (i + 4)))
def xaty : Nat → FieldType
  | 10 => .int | 11 => .long | 12 => .char | 13 => .boolean | 14 => .object RX3 | _ => .object RX2
abbrev xtys (ω : xW) : List (ClassId × FieldType) := [(ω.2.1 10, .int), (ω.2.1 10, .int), (ω.2.1 12, .char), (ω.2.1 13, .boolean), (ω.2.1 14, .object RX3), (ω.2.1 15, .object RX2)]
def xA (ω : xW) : Nat → Prop := fun q => ω.2.2.2 ≤ q
/-- what the class's own static rows hold -/
def xst : Nat → Nat → Int
  | 1, j => [0, 0, 0, 1, 0, 0, 0, 0, 0].getD j 0
  | 2, j => [1000, 500, 8, 6, 400, 1000, 100, 100, 100].getD j 0
  | _, j => [100, 20, 2, 2, 100, 50, 1, 5, 3].getD j 0
def xnm : Nat → String
  | 1 => "LEAST_SETTINGS" | 2 => "MOST_SETTINGS" | _ => "FIRST_SETTINGS"
/-- a static row of nine ints at its cell -/
def xTS (ω : xW) (k : Nat) (U : State) (H : Heap) : Prop := ∃ cell : Cell, H[ω.2.2.1 k]? = some cell ∧ U.isArrayOf cell .int ∧ cell.vm ≠ .unknown ∧ cell.slots.size = 9 ∧ (∀ j : Nat, j < 9 → cell.slots[j]? = some (vi (xst k j))) ∧ ¬ xA ω (ω.2.2.1 k) ∧ U.vm.findClass "[I" = some cell.cls
theorem xTS.moved {ω : xW} {k : Nat} {u U : State} {H : Heap} (hvm : u.vm.Alike U.vm) (h : xTS ω k u H) : xTS ω k U H := by
  obtain ⟨cell, h1, h2, h3, h4, h5, h6, h7⟩ := h
  exact ⟨cell, h1, State.isArrayOf_alike hvm h2, h3, h4, h5, h6, by rw [hvm.findClass]; exact h7⟩
theorem xTS.kept {ω : xW} {k : Nat} {U : State} {H H1 : Heap} (h : xTS ω k U H) (hq : ∀ a : Nat, a < H.size → ¬ xA ω a → H1[a]? = H[a]?) : xTS ω k U H1 := by
  obtain ⟨cell, h1, h2, h3, h4, h5, h6, h7⟩ := h
  exact ⟨cell, by rw [hq _ (Array.getElem?_eq_some_iff.mp h1).1 h6]; exact h1, h2, h3, h4, h5, h6, h7⟩
/-- what of the tables and of the statics a method is given beside its words -/
def xKF (ω : xW) (U : State) (H : Heap) : Prop :=
  va_K ω.1 vwCl (xtys ω) U ∧ va_AO RX3 U ∧ va_AO RX2 U
  ∧ va_Nw (.methodLinkNest RX4 21 yX1_init "LotFences") U ∧ va_Nw (.methodLinkNest RX3 38 yX2_init "LotFences") U ∧ va_Nw (.methodLinkNest RX3 159 yX4_isFamily "LotFences") U
  ∧ va_Nw (.fieldLinkNest RX3 9 "LotFences" "FIRST_SETTINGS" "[I" "LotFences") U ∧ va_Nw (.castable "[I" "java/lang/Cloneable") U
  ∧ ∀ k, 1 ≤ k → k < 4 → va_Z "LotFences" (xnm k) "[I" (.ref (ω.2.2.1 k)) (xA ω) U H ∧ xTS ω k U H
/-- the tables' words that every state keeps -/
def xtb : List Cond := lw_tbl.filter goodWord
theorem xtb_in {w : Cond} (i : Nat) (h : lw_tbl[i]? = some w) (hg : goodWord w = true) : w ∈ xtb := List.mem_filter.mpr ⟨List.mem_of_getElem? h, hg⟩
theorem xtb_tbl : ∀ w ∈ xtb, w ∈ lw_tbl := fun _ h => (List.mem_filter.mp h).1
theorem xtb_good : ∀ w ∈ xtb, (w.onTables && w.keeps) = true ∨ ∃ ty, w = .arrayClass ty := fun _ h => good_of_word (List.mem_filter.mp h).2
theorem xlg_len (vs : List Value) : (lg_sl vs).length ≤ (vs.map Value.category).sum := by
  induction vs with
  | nil => simp [lg_sl]
  | cons v vs ih =>
    have h : lg_sl (v :: vs) = (if v.category = 2 then [.val v, .second] else [.val v]) ++ lg_sl vs := by simp [lg_sl]
    rw [h, List.map_cons, List.sum_cons, List.length_append]
    have hv : 1 ≤ v.category := by cases v <;> simp [Value.category]
    split
    · rename_i h2; rw [h2]; simp; omega
    · simp; omega
/-! ===== locals ===== -/
def xlg : List (Option Value) → Nat → Option Value
  | [], _ => none
  | x :: _, 0 => x
  | _ :: xs, n + 1 => xlg xs n
def xclr : Option Value → Option Value
  | some (.long _) => none
  | some (.double _) => none
  | x => x
/-- a value of one slot is put at a place -/
def xs1 : List (Option Value) → Nat → Value → List (Option Value)
  | [], _, _ => []
  | _ :: xs, 0, v => some v :: xs
  | x :: _ :: xs, 1, v => xclr x :: some v :: xs
  | [x], 1, _ => [x]
  | x :: xs, n + 2, v => x :: xs1 xs (n + 1) v
/-- a value of two slots -/
def xs2 : List (Option Value) → Nat → Value → List (Option Value)
  | [], _, _ => []
  | _ :: _ :: xs, 0, v => some v :: none :: xs
  | [x], 0, _ => [x]
  | x :: _ :: _ :: xs, 1, v => xclr x :: some v :: none :: xs
  | x :: xs, 1, _ => x :: xs
  | x :: xs, n + 2, v => x :: xs2 xs (n + 1) v
def xll (ω : xW) : Nat → List (Option Value) → List (Nat × Value)
  | _, [] => []
  | i, some v :: xs => (i, xtr ω v) :: xll ω (i + 1) xs
  | i, none :: xs => xll ω (i + 1) xs
def xLH (ω : xW) (ls : Array Slot) (nL : Nat) (pl : List (Option Value)) : Prop := lv_has ls nL (xll ω 0 pl)
theorem xcat (ω : xW) (v : Value) : (xtr ω v).category = v.category := by cases v <;> rfl
theorem xll_mem {ω : xW} : ∀ (pl : List (Option Value)) (i : Nat) (q : Nat × Value), q ∈ xll ω i pl ↔ ∃ k v, q.1 = i + k ∧ xlg pl k = some v ∧ q.2 = xtr ω v := by
  intro pl
  induction pl with
  | nil => intro i q; simp [xll, xlg]
  | cons x xs ih =>
    intro i q
    cases x with
    | none =>
      simp only [xll, ih]
      constructor
      · rintro ⟨k, v, h1, h2, h3⟩; exact ⟨k + 1, v, by omega, h2, h3⟩
      · rintro ⟨k, v, h1, h2, h3⟩
        cases k with
        | zero => simp [xlg] at h2
        | succ k => exact ⟨k, v, by omega, h2, h3⟩
    | some w =>
      simp only [xll, List.mem_cons, ih]
      constructor
      · rintro (h | ⟨k, v, h1, h2, h3⟩)
        · exact ⟨0, w, by rw [h]; rfl, rfl, by rw [h]⟩
        · exact ⟨k + 1, v, by omega, h2, h3⟩
      · rintro ⟨k, v, h1, h2, h3⟩
        cases k with
        | zero =>
          left
          simp only [xlg, Option.some.injEq] at h2
          subst h2
          exact Prod.ext h1 h3
        | succ k => right; exact ⟨k, v, by omega, h2, h3⟩
theorem xLH.get {ω : xW} {ls : Array Slot} {nL : Nat} {pl : List (Option Value)} (h : xLH ω ls nL pl) {i : Nat} {v : Value} (hi : xlg pl i = some v) : ls[i]? = some (.val (xtr ω v)) :=
  h.2.2 (i, xtr ω v) ((xll_mem pl 0 _).mpr ⟨i, v, by simp, hi, rfl⟩)
theorem xclr_some {x : Option Value} {v : Value} (h : xclr x = some v) : x = some v ∧ v.category ≠ 2 := by
  cases x with
  | none => simp [xclr] at h
  | some w => cases w <;> simp [xclr] at h <;> subst h <;> simp [Value.category]
theorem xs1_get : ∀ (pl : List (Option Value)) (i : Nat) (v : Value) (k : Nat) (w : Value), xlg (xs1 pl i v) k = some w → (k = i ∧ w = v) ∨ (k ≠ i ∧ xlg pl k = some w ∧ ¬ (k + 1 = i ∧ w.category = 2)) ∨ (pl.length ≤ i ∧ xlg pl k = some w) := by
  intro pl
  induction pl with
  | nil => intro i v k w h; simp [xs1, xlg] at h
  | cons x xs ih =>
    intro i v k w h
    match i, k, h with
    | 0, 0, h => left; simp [xs1, xlg] at h; exact ⟨rfl, h.symm⟩
    | 0, k + 1, h => right; left; exact ⟨by omega, h, by omega⟩
    | 1, k, h =>
      cases xs with
      | nil => right; right; exact ⟨by simp, h⟩
      | cons y ys =>
        match k, h with
        | 0, h =>
          right; left
          obtain ⟨h1, h2⟩ := xclr_some (show xclr x = some w from h)
          exact ⟨by omega, h1, fun z => h2 z.2⟩
        | 1, h => left; simp [xs1, xlg] at h; exact ⟨rfl, h.symm⟩
        | k + 2, h => right; left; exact ⟨by omega, h, by omega⟩
    | i + 2, 0, h => right; left; exact ⟨by omega, by cases xs <;> exact h, by omega⟩
    | i + 2, k + 1, h =>
      have h' : xlg (xs1 xs (i + 1) v) k = some w := by cases xs <;> exact h
      rcases ih (i + 1) v k w h' with ⟨h1, h2⟩ | ⟨h1, h2, h3⟩ | ⟨h1, h2⟩
      · left; exact ⟨by omega, h2⟩
      · right; left; exact ⟨by omega, h2, fun z => h3 ⟨by omega, z.2⟩⟩
      · right; right; exact ⟨by simp; omega, h2⟩
theorem xs2_get : ∀ (pl : List (Option Value)) (i : Nat) (v : Value) (k : Nat) (w : Value), xlg (xs2 pl i v) k = some w → (k = i ∧ w = v) ∨ (k ≠ i ∧ k ≠ i + 1 ∧ xlg pl k = some w ∧ ¬ (k + 1 = i ∧ w.category = 2)) ∨ (pl.length ≤ i + 1 ∧ xlg pl k = some w) := by
  intro pl
  induction pl with
  | nil => intro i v k w h; simp [xs2, xlg] at h
  | cons x xs ih =>
    intro i v k w h
    match i, k, h with
    | 0, k, h =>
      cases xs with
      | nil => right; right; exact ⟨by simp, h⟩
      | cons y ys =>
        match k, h with
        | 0, h => left; simp [xs2, xlg] at h; exact ⟨rfl, h.symm⟩
        | 1, h => simp [xs2, xlg] at h
        | k + 2, h => right; left; exact ⟨by omega, by omega, h, by omega⟩
    | 1, k, h =>
      match xs, h with
      | [], h => right; right; exact ⟨by simp, h⟩
      | [y], h => right; right; exact ⟨by simp, h⟩
      | y :: z :: zs, h =>
        match k, h with
        | 0, h =>
          right; left
          obtain ⟨h1, h2⟩ := xclr_some (show xclr x = some w from h)
          exact ⟨by omega, by omega, h1, fun z => h2 z.2⟩
        | 1, h => left; simp [xs2, xlg] at h; exact ⟨rfl, h.symm⟩
        | 2, h => simp [xs2, xlg] at h
        | k + 3, h => right; left; exact ⟨by omega, by omega, h, by omega⟩
    | i + 2, 0, h => right; left; exact ⟨by omega, by omega, by match xs with | [] => exact h | [_] => exact h | _ :: _ :: _ => exact h, by omega⟩
    | i + 2, k + 1, h =>
      have h' : xlg (xs2 xs (i + 1) v) k = some w := by match xs with | [] => exact h | [_] => exact h | _ :: _ :: _ => exact h
      rcases ih (i + 1) v k w h' with ⟨h1, h2⟩ | ⟨h1, h1', h2, h3⟩ | ⟨h1, h2⟩
      · left; exact ⟨by omega, h2⟩
      · right; left; exact ⟨by omega, by omega, h2, fun z => h3 ⟨by omega, z.2⟩⟩
      · right; right; exact ⟨by simp; omega, h2⟩
/-- what a store of the machine leaves is what xs1 says -/
theorem xLH.put1 {ω : xW} {nL : Nat} {pl : List (Option Value)} {i : Nat} {v : Value} (hn : i < pl.length) {ls' : Array Slot}
    (h : lv_has ls' nL ((i, xtr ω v) :: (xll ω 0 pl).filter (fun q => !(q.1 == i) && !(q.1 + 1 == i && q.2.category == 2)))) : xLH ω ls' nL (xs1 pl i v) := by
  refine ⟨h.1, h.2.1, fun q hq => h.2.2 q ?_⟩
  obtain ⟨k, w, h1, h2, h3⟩ := (xll_mem _ 0 q).mp hq
  rcases xs1_get pl i v k w h2 with ⟨e1, e2⟩ | ⟨e1, e2, e3⟩ | ⟨e1, -⟩
  · subst e1; subst e2
    exact List.mem_cons.mpr (Or.inl (Prod.ext (by simpa using h1) h3))
  · refine List.mem_cons.mpr (Or.inr (List.mem_filter.mpr ⟨(xll_mem pl 0 q).mpr ⟨k, w, h1, e2, h3⟩, ?_⟩))
    have h4 : q.1 = k := by omega
    have h5 : q.2.category = w.category := by rw [h3, xcat]
    rw [h4, h5]
    have : ¬ (k + 1 = i ∧ w.category = 2) := e3
    simp [e1]
    omega
  · omega
theorem xLH.put2 {ω : xW} {nL : Nat} {pl : List (Option Value)} {i : Nat} {v : Value} (hn : i + 1 < pl.length) {ls' : Array Slot}
    (h : lv_has ls' nL ((i, xtr ω v) :: (xll ω 0 pl).filter (fun q => !(q.1 == i) && (!(q.1 == i + 1) && !(q.1 + 1 == i && q.2.category == 2))))) : xLH ω ls' nL (xs2 pl i v) := by
  refine ⟨h.1, h.2.1, fun q hq => h.2.2 q ?_⟩
  obtain ⟨k, w, h1, h2, h3⟩ := (xll_mem _ 0 q).mp hq
  rcases xs2_get pl i v k w h2 with ⟨e1, e2⟩ | ⟨e1, e1', e2, e3⟩ | ⟨e1, -⟩
  · subst e1; subst e2
    exact List.mem_cons.mpr (Or.inl (Prod.ext (by simpa using h1) h3))
  · refine List.mem_cons.mpr (Or.inr (List.mem_filter.mpr ⟨(xll_mem pl 0 q).mpr ⟨k, w, h1, e2, h3⟩, ?_⟩))
    have h4 : q.1 = k := by omega
    have h5 : q.2.category = w.category := by rw [h3, xcat]
    rw [h4, h5]
    have : ¬ (k + 1 = i ∧ w.category = 2) := e3
    simp [e1, e1']
    omega
  · omega
/-- the locals at a method's entry -/
def xen : List Value → Nat → List (Option Value)
  | _, 0 => []
  | [], n + 1 => none :: xen [] n
  | .long v :: vs, n + 2 => some (.long v) :: none :: xen vs n
  | .double v :: vs, n + 2 => some (.double v) :: none :: xen vs n
  | v :: vs, n + 1 => some v :: xen vs n
theorem xen_args (ω : xW) : ∀ (av : List Value) (n i : Nat) (q : Nat × Value), q ∈ xll ω i (xen av n) → q ∈ lv_args i (av.map (xtr ω)) := by
  intro av
  induction av with
  | nil =>
    intro n
    induction n with
    | zero => intro i q h; simp [xen, xll] at h
    | succ n ih => intro i q h; simp only [xen, xll] at h; have := ih (i + 1) q h; simp [lv_args] at this
  | cons v vs ih =>
    intro n i q h
    have hc : (xtr ω v).category = v.category := xcat ω v
    cases n with
    | zero => simp [xen, xll] at h
    | succ n =>
      cases v with
      | long x =>
        cases n with
        | zero =>
          simp only [xen, xll, List.mem_cons, List.not_mem_nil, or_false] at h
          subst h
          exact List.mem_cons_self
        | succ n =>
          simp only [xen, xll, List.mem_cons] at h
          rcases h with h | h
          · subst h; exact List.mem_cons_self
          · exact List.mem_cons_of_mem _ (ih n (i + 1 + 1) q h)
      | double x =>
        cases n with
        | zero =>
          simp only [xen, xll, List.mem_cons, List.not_mem_nil, or_false] at h
          subst h
          exact List.mem_cons_self
        | succ n =>
          simp only [xen, xll, List.mem_cons] at h
          rcases h with h | h
          · subst h; exact List.mem_cons_self
          · exact List.mem_cons_of_mem _ (ih n (i + 1 + 1) q h)
      | _ =>
        simp only [xen, xll, List.mem_cons] at h
        rcases h with h | h
        · subst h; exact List.mem_cons_self
        · exact List.mem_cons_of_mem _ (ih n (i + 1) q h)
theorem xLH.entry {ω : xW} {ls : Array Slot} {nL : Nat} {av : List Value} (h : lv_has ls nL (lv_args 0 (av.map (xtr ω)))) {pl : List (Option Value)} (hp : xen av nL = pl) : xLH ω ls nL pl := by
  subst hp
  exact ⟨h.1, h.2.1, fun q hq => h.2.2 q (xen_args ω av nL 0 q hq)⟩
/-! ===== the heap ===== -/
theorem xad_ge (ω : xW) {k : Nat} (h : 4 ≤ k) : xad ω k = ω.2.2.2 + (k - 4) := if_neg (by omega)
theorem xws_at (ω : xW) {n k : Nat} (D : xD) (r : xR) (h : 4 ≤ k) (hk : k < n) : (xws ω n D r)[k - 4]? = some (xad ω k, xent ω D r k) := by
  have h1 : k - 4 < n - 4 := by omega
  have h2 : k - 4 + 4 = k := by omega
  simp [xws, List.getElem?_map, List.getElem?_range h1, h2]
theorem xws_get (ω : xW) {n i : Nat} {D : xD} {r : xR} {q : Nat × va_E} (h : (xws ω n D r)[i]? = some q) : i < n - 4 ∧ q = (xad ω (i + 4), xent ω D r (i + 4)) := by
  simp only [xws, List.getElem?_map] at h
  by_cases hi : i < n - 4
  · rw [List.getElem?_range hi] at h
    exact ⟨hi, (Option.some.inj h).symm⟩
  · rw [List.getElem?_eq_none (by simp; omega)] at h
    cases h
theorem xws_D (ω : xW) (n : Nat) (D : xD) (r : xR) : va_D (xA ω) (xws ω n D r) := by
  refine ⟨fun i j p q hi hj h => ?_, fun k q h => ?_⟩
  · obtain ⟨-, rfl⟩ := xws_get ω hi
    obtain ⟨-, rfl⟩ := xws_get ω hj
    simp only [xad_ge ω (show 4 ≤ i + 4 by omega), xad_ge ω (show 4 ≤ j + 4 by omega)] at h
    omega
  · obtain ⟨-, rfl⟩ := xws_get ω h
    show ω.2.2.2 ≤ xad ω (k + 4)
    rw [xad_ge ω (by omega)]
    omega
theorem xent_congr (ω : xW) {D D' : xD} {r r' : xR} {k : Nat} (h : D' k = D k) (h' : r' k = r k) : xent ω D' r' k = xent ω D r k := by
  unfold xent xarr
  rw [show xfv ω (xSH k).1 D' r' k = xfv ω (xSH k).1 D r k from funext fun j => by unfold xfv; rw [h, h'], h, h']
theorem xws_set (ω : xW) {n k : Nat} {D D' : xD} {r r' : xR} {e : va_E} (h : 4 ≤ k) (hk : k < n) (he : e = xent ω D' r' k) (hD : ∀ q, q ≠ k → D' q = D q) (hr : ∀ q, q ≠ k → r' q = r q) : (xws ω n D r).set (k - 4) (xad ω k, e) = xws ω n D' r' := by
  subst he
  apply List.ext_getElem?
  intro i
  by_cases hik : i = k - 4
  · subst hik
    rw [xws_at ω D' r' h hk, List.getElem?_set_self]
    simp [xws]; omega
  · rw [List.getElem?_set_ne (Ne.symm hik)]
    simp only [xws, List.getElem?_map]
    by_cases hi : i < n - 4
    · rw [List.getElem?_range hi]
      simp only [Option.map_some, Option.some.injEq, Prod.mk.injEq, true_and]
      exact (xent_congr ω (hD _ (by omega)) (hr _ (by omega))).symm
    · rw [List.getElem?_eq_none (by simp; omega)]; rfl
def xRep (ω : xW) (n : Nat) (D : xD) (r : xR) (H : Heap) : Prop := (n < 351 → H.size = xad ω n) ∧ 4 ≤ n ∧ va_P ω.1 vwCl (xws ω n D r) H
theorem xent_obj (ω : xW) {D : xD} {r : xR} {k ci z : Nat} (hs : xSH k = (ci, z)) (hc : ci < 5) : xent ω D r k = .inr (ci, (List.range (xN ci)).map (xfv ω ci D r k)) := by
  unfold xent; rw [hs]; exact if_pos hc
theorem xent_arr (ω : xW) {D : xD} {r : xR} {k c z : Nat} (hs : xSH k = (c, z)) (hc : ¬ c < 5) : xent ω D r k = .inl (ω.2.1 c, (z, xarr ω c D r k)) := by
  unfold xent; rw [hs]; exact if_neg hc
/-- one number of the memory becomes another -/
def xu (D : xD) (a j : Nat) (e : Int) : xD := fun a' => if a' = a then (fun j' => if j' = j then e else D a' j') else D a'
theorem xu_at (D : xD) (a j : Nat) (e : Int) : xu D a j e a j = e := by simp [xu]
theorem xu_ne (D : xD) (a j : Nat) (e : Int) {a' j' : Nat} (h : a' ≠ a ∨ j' ≠ j) : xu D a j e a' j' = D a' j' := by
  unfold xu
  by_cases h1 : a' = a
  · rw [if_pos h1]; exact if_neg (h.resolve_left (not_not_intro h1))
  · rw [if_neg h1]
theorem xu_row (D : xD) (a j : Nat) (e : Int) {a' : Nat} (h : a' ≠ a) : xu D a j e a' = D a' := if_neg h
def xur (r : xR) (a j : Nat) (e : Option Nat) : xR := fun a' => if a' = a then (fun j' => if j' = j then e else r a' j') else r a'
theorem xur_at (D : xR) (a j : Nat) (e : Option Nat) : xur D a j e a j = e := by simp [xur]
theorem xur_ne (D : xR) (a j : Nat) (e : Option Nat) {a' j' : Nat} (h : a' ≠ a ∨ j' ≠ j) : xur D a j e a' j' = D a' j' := by
  unfold xur
  by_cases h1 : a' = a
  · rw [if_pos h1]; exact if_neg (h.resolve_left (not_not_intro h1))
  · rw [if_neg h1]
theorem xur_row (D : xR) (a j : Nat) (e : Option Nat) {a' : Nat} (h : a' ≠ a) : xur D a j e a' = D a' := if_neg h
theorem xfs_get (ω : xW) {ci j : Nat} {D : xD} {r : xR} {a : Nat} (hj : j < xN ci) : ((List.range (xN ci)).map (xfv ω ci D r a))[j]? = some (xfv ω ci D r a j) := by
  rw [List.getElem?_map, List.getElem?_range hj]; rfl
theorem xfs_set (ω : xW) {ci j : Nat} {D D' : xD} {r r' : xR} {a : Nat} (v : Value) (hj : j < xN ci) (hv : v = xfv ω ci D' r' a j) (hD : ∀ i, i ≠ j → D' a i = D a i) (hr : ∀ i, i ≠ j → r' a i = r a i) : ((List.range (xN ci)).map (xfv ω ci D r a)).set j v = (List.range (xN ci)).map (xfv ω ci D' r' a) := by
  subst hv
  apply List.ext_getElem?
  intro i
  by_cases hi : i = j
  · subst hi
    rw [xfs_get ω hj, List.getElem?_set_self (by simpa using hj)]
  · rw [List.getElem?_set_ne (Ne.symm hi)]
    simp only [List.getElem?_map]
    by_cases h : i < xN ci
    · rw [List.getElem?_range h]
      simp only [Option.map_some, Option.some.injEq]
      unfold xfv
      rw [hD i hi, hr i hi]
    · rw [List.getElem?_eq_none (by simpa using h)]; rfl
/-! ===== numbers ===== -/
theorem xi_in {k n : Nat} (h : k < n) (hn : n ≤ 100000) : vp_in (Int32.ofInt (k : Int)) n ∧ (Int32.ofInt (k : Int)).toNatClampNeg = k := by
  have h1 : (Int32.ofInt (k : Int)).toNatClampNeg = k := by
    rw [Int32.toNatClampNeg_ofInt_of_le (by omega) (by omega)]; simp
  refine ⟨fun z => ?_, h1⟩
  rcases z with z | z
  · rw [Int32.lt_iff_toInt_lt, Int32.toInt_ofInt_of_le (by omega) (by omega)] at z
    exact absurd z (by simp)
  · rw [h1] at z; omega
abbrev xI (a : Int) : Prop := -2147483648 ≤ a ∧ a < 2147483648
abbrev xJ (a : Int) : Prop := -9223372036854775808 ≤ a ∧ a < 9223372036854775808
theorem xti {a : Int} (h : xI a) : (Int32.ofInt a).toInt = a := Int32.toInt_ofInt_of_le h.1 h.2
theorem xtl {a : Int} (h : xJ a) : (Int64.ofInt a).toInt = a := Int64.toInt_ofInt_of_le h.1 h.2
theorem xi_lt {a b : Int} (ha : xI a) (hb : xI b) : Int32.ofInt a < Int32.ofInt b ↔ a < b := by rw [Int32.lt_iff_toInt_lt, xti ha, xti hb]
theorem xi_le {a b : Int} (ha : xI a) (hb : xI b) : Int32.ofInt a ≤ Int32.ofInt b ↔ a ≤ b := by rw [Int32.le_iff_toInt_le, xti ha, xti hb]
theorem xi_eq {a b : Int} (ha : xI a) (hb : xI b) : Int32.ofInt a = Int32.ofInt b ↔ a = b := by rw [← Int32.toInt_inj, xti ha, xti hb]
theorem xl_lt {a b : Int} (ha : xJ a) (hb : xJ b) : Int64.ofInt a < Int64.ofInt b ↔ a < b := by rw [Int64.lt_iff_toInt_lt, xtl ha, xtl hb]
theorem xl_eq {a b : Int} (ha : xJ a) (hb : xJ b) : Int64.ofInt a = Int64.ofInt b ↔ a = b := by rw [← Int64.toInt_inj, xtl ha, xtl hb]
/-! ===== the judgements ===== -/
abbrev xC : Type := Program × Launch × Env × Room × State × MethodId × Array Value × List Frame × Method × Code × (State → Prop) × xW × Nat × Nat × Nat × Nat
def xV (γ : xC) (pc : Nat) (pl : List (Option Value)) (st : List Value) (σ : Nat × Nat) (D : xD) (r : xR) : Prop := match γ with
  | (p, l, e, R, s, m, args, below, meth, c, Q, ω, n0, z0, n1, z1) =>
    n0 ≤ σ.1 → z0 ≤ σ.2 → σ.1 ≤ n1 → σ.2 ≤ z1 → ∀ (H : Heap) (locs : List Loc) (ls : Array Slot), xRep ω σ.1 D r H → va_S (xA ω) s.heap H locs → xLH ω ls c.maxLocals pl →
      W p l e R s m args below meth c H locs (σ.1 - n0) (σ.2 - z0) Q (F0 m pc ls (st.map (xtr ω)))
def xX (γ : xC) (cc : ByteArray) (nL : Nat) (y : MethodName) (d : Nat) : Prop := match γ with
  | (p, _, _, R, s, m, args, _, meth, c, _, ω, n0, z0, n1, z1) =>
    p.tables.exec = Jvm.exec ∧ c.code = cc ∧ c.maxLocals = nL ∧ s.vm.findClass y.cls = some m.cls ∧ (∀ w ∈ xtb, w.before args s = true) ∧ xKF ω s s.heap ∧ (∀ q, s.heap.size ≤ q → xA ω q)
      ∧ d ≤ R.frames ∧ 40 * d ≤ R.locals ∧ n1 - n0 ≤ R.cells ∧ z1 - z0 ≤ R.slots ∧ meth.name = y.name
abbrev xM : Type := MethodName × ByteArray × Nat × Option FieldType
def xMW (μ : xM) : List Cond := .code μ.1 μ.2.1 μ.2.2.1 μ.2.2.2 :: xtb
def xQ (ω : xW) (σ' : Nat × Nat) (P : Option Value → xD → xR → Prop) : Array Value → State → Outcome → State → Prop := fun _ st o t =>
  (∃ (v : Option Value) (D' : xD) (r' : xR), o = .returned (v.map (xtr ω)) ∧ P v D' r' ∧ xRep ω σ'.1 D' r' t.heap) ∧ va_F (xA ω) st t
def MX (d : Nat) (μ : xM) (av : List Value) (σ : Nat × Nat) (D : xD) (r : xR) (σ' : Nat × Nat) (P : Option Value → xD → xR → Prop) : Prop := ∀ (l : Launch) (ω : xW),
  Met l μ.1 (xMW μ) ({ frames := d, cells := σ'.1 - σ.1, slots := σ'.2 - σ.2, locals := 40 * d } : Room) (va_Pc (av.map (xtr ω)) (fun U => (xRep ω σ.1 D r U.heap ∧ σ.1 ≤ σ'.1 ∧ σ.2 ≤ σ'.2 ∧ ω.2.2.2 ≤ U.heap.size) ∧ xKF ω U U.heap)) (xQ ω σ' P) (σ'.1 - σ.1) (σ'.2 - σ.2) (xA ω)
def xRX (γ : xC) (rt : Option FieldType) (σ' : Nat × Nat) (P : Option Value → xD → xR → Prop) : Prop := match γ with
  | (_, _, _, _, s, _, args, below, meth, _, Q, ω, n0, z0, n1, z1) => Q = MQ below (xQ ω σ' P) args s (n1 - n0) (z1 - z0) (xA ω) ∧ meth.sig.returnType = rt ∧ meth.locks = false ∧ n1 = σ'.1 ∧ z1 = σ'.2
theorem xKF.moved {ω : xW} {s U : State} {H0 H : Heap} (hW : s.WarmedH U.vm) (h : xKF ω s H0) (hq : ∀ a : Nat, a < H0.size → ¬ xA ω a → H[a]? = H0[a]?) : xKF ω U H := by
  obtain ⟨h1, h2, h3, h4, h5, h6, h7, h8, h9⟩ := h
  exact ⟨va_K.moved hW.alike h1, h2.moved hW.alike, h3.moved hW.alike, va_Nw.warmM hW h4, va_Nw.warmM hW h5, va_Nw.warmM hW h6, va_Nw.warmF hW h7, va_Nw.warmC hW h8,
    fun k a b => ⟨((h9 k a b).1.kept hq).moved hW.alike, ((h9 k a b).2.kept hq).moved hW.alike⟩⟩
theorem xKF.same {ω : xW} {s U : State} {H : Heap} (hv : s.vm = U.vm) (h : xKF ω s H) : xKF ω U H := by
  obtain ⟨h1, h2, h3, h4, h5, h6, h7, h8, h9⟩ := h
  have ha : s.vm.Alike U.vm := hv ▸ Vm.Alike.refl s.vm
  exact ⟨va_K.moved ha h1, h2.moved ha, h3.moved ha, va_Nw.same rfl hv h4, va_Nw.same rfl hv h5, va_Nw.same rfl hv h6, va_Nw.same rfl hv h7, va_Nw.same rfl hv h8,
    fun k a b => ⟨(h9 k a b).1.moved ha, (h9 k a b).2.moved ha⟩⟩
set_option maxHeartbeats 4000000 in
/-- a method's contract out of the walk of its body -/
theorem MX.of {d : Nat} {y : MethodName} {cc : ByteArray} {nL : Nat} {rt : Option FieldType} {av : List Value} {σ σ' : Nat × Nat} {D : xD} {r : xR} {P : Option Value → xD → xR → Prop} (hy : plainName y.cls = true) (pl : List (Option Value)) (hpl : xen av nL = pl) (hlen : (av.map Value.category).sum ≤ nL)
    (h : ∀ γ : xC, xX γ cc nL y d → xRX γ rt σ' P → xV γ 0 pl [] σ D r) : MX d (y, cc, nL, rt) av σ D r σ' P := by
  intro l ω
  refine Met.ofW (cc := cc) (maxL := nL) (ret := rt) hy rfl ?_
  intro p e s m args below meth c s₁ B hml hv
  obtain ⟨rfl, ⟨hRep, hn, hz, hbase⟩, hKF⟩ := hv
  have hts0 := atoms_spec (ws := xMW (y, cc, nL, rt)) B.pre
  have hts : ∀ w ∈ xtb, w.before (av.map (xtr ω)).toArray s = true := fun w hw => hts0 w (List.mem_cons_of_mem _ hw)
  have hown : s.vm.findClass y.cls = some m.cls := findClass_of_methodNamed B.named
  have hin : meth.name = y.name := (name_of_methodNamed B.named B.method).1
  have hl := lv_entry (av.map (xtr ω)) (n := nL) (Nat.le_trans (xlg_len _) (by rw [List.map_map, show (Value.category ∘ xtr ω) = Value.category from funext fun v => xcat ω v]; exact hlen))
  rw [lg_entry_eq]
  generalize (lg_sl (av.map (xtr ω)) ++ List.replicate (nL - (lg_sl (av.map (xtr ω))).length) Slot.unset).toArray = ls at hl ⊢
  have hV := h (p, l, e, (headSpec (xMW (y, cc, nL, rt)) ({ frames := d, cells := σ'.1 - σ.1, slots := σ'.2 - σ.2, locals := 40 * d } : Room)).room, s, m, (av.map (xtr ω)).toArray, below, meth, c, _, ω, σ.1, σ.2, σ'.1, σ'.2)
    ⟨B.exec, B.bytes, hml, hown, hts, hKF, fun q hq => Nat.le_trans hbase hq, Nat.le_refl _, Nat.le_refl _, Nat.le_refl _, Nat.le_refl _, hin⟩
    ⟨rfl, B.returns, B.notSynchronized, rfl, rfl⟩ (Nat.le_refl _) (Nat.le_refl _) hn hz s.heap [] ls hRep va_S.rf (by rw [hml]; exact xLH.entry hl hpl)
  rw [Nat.sub_self, Nat.sub_self] at hV
  exact hV

