/-! ===== steady state: rows by shorter facts ===== -/
def xOb (n a ci : Nat) : Prop := xSH a = (ci, 0) ∧ 4 ≤ a ∧ a < n
def xAr (n a c len : Nat) : Prop := xSH a = (c, len) ∧ 4 ≤ a ∧ a < n ∧ len ≤ 100000
abbrev xEs (w : Value) (Q : xD → Prop) (r : xR) : Option Value → xD → xR → Prop := fun v D' r' => v = some w ∧ r' = r ∧ Q D'
abbrev xEn (Q : xD → Prop) (r : xR) : Option Value → xD → xR → Prop := fun v D' r' => v = none ∧ r' = r ∧ Q D'
/-- a boolean as a number -/
abbrev bi (c : Prop) [Decidable c] : Int := if c then 1 else 0
theorem bi_I (c : Prop) [Decidable c] : xI (bi c) := by unfold bi; split <;> decide
theorem bi_nar (c : Prop) [Decidable c] : narrow .boolean (vi (bi c)) = vi (bi c) := by unfold bi; split <;> rfl
theorem bi_eq {c c' : Prop} [Decidable c] [Decidable c'] (h : c ↔ c') : bi c = bi c' := by unfold bi; simp [h]
theorem bi1 {c : Prop} [Decidable c] (h : c) : (1 : Int) = bi c := (if_pos h).symm
theorem bi0 {c : Prop} [Decidable c] (h : ¬ c) : (0 : Int) = bi c := (if_neg h).symm
section XW2
variable {γ : xC} {cc : ByteArray} {nL d : Nat} {y : MethodName} {pc q : Nat} {pl : List (Option Value)} {st : List Value} {n z : Nat} {D : xD} {r : xR}
theorem w_getI (hX : xX γ cc nL y d) {idx ci j a : Nat} {fin : Bool} (hf : xFL y.cls idx ci j fin) (hk : xkd (xty ci j) = 0) (hO : xOb n a ci) (hd : decode cc pc = .ok (.getfield idx, 3)) (hq : pc + 3 = q) (k : xV γ q pl (vi (D a j) :: st) (n, z) D r) : xV γ pc pl (.ref a :: st) (n, z) D r := v_getI hX hf hk hO.1 hO.2.1 hO.2.2 hd hq k
theorem w_getL (hX : xX γ cc nL y d) {idx ci j a : Nat} {fin : Bool} (hf : xFL y.cls idx ci j fin) (hk : xkd (xty ci j) = 1) (hO : xOb n a ci) (hd : decode cc pc = .ok (.getfield idx, 3)) (hq : pc + 3 = q) (k : xV γ q pl (vl (D a j) :: st) (n, z) D r) : xV γ pc pl (.ref a :: st) (n, z) D r := v_getL hX hf hk hO.1 hO.2.1 hO.2.2 hd hq k
theorem w_getR (hX : xX γ cc nL y d) {idx ci j a b : Nat} {fin : Bool} (hf : xFL y.cls idx ci j fin) (hk : xkd (xty ci j) = 2) (hO : xOb n a ci) (hr : r a j = some b) (hd : decode cc pc = .ok (.getfield idx, 3)) (hq : pc + 3 = q) (k : xV γ q pl (.ref b :: st) (n, z) D r) : xV γ pc pl (.ref a :: st) (n, z) D r := v_getR hX hf hk hO.1 hO.2.1 hO.2.2 hr hd hq k
theorem w_putI (hX : xX γ cc nL y d) {idx ci j a : Nat} {e : Int} (hf : xFL y.cls idx ci j false) (hk : xty ci j = .int) (hO : xOb n a ci) (hd : decode cc pc = .ok (.putfield idx, 3)) (hq : pc + 3 = q) (k : xV γ q pl st (n, z) (xu D a j e) r) : xV γ pc pl (vi e :: .ref a :: st) (n, z) D r := v_putI hX hf (by rw [hk]; rfl) (by rw [hk]; rfl) (by rw [hk]; rfl) hO.1 hO.2.1 hO.2.2 hd hq k
theorem w_putZ (hX : xX γ cc nL y d) {idx ci j a : Nat} {e : Int} (hf : xFL y.cls idx ci j false) (hk : xty ci j = .boolean) (he : e = 0 ∨ e = 1) (hO : xOb n a ci) (hd : decode cc pc = .ok (.putfield idx, 3)) (hq : pc + 3 = q) (k : xV γ q pl st (n, z) (xu D a j e) r) : xV γ pc pl (vi e :: .ref a :: st) (n, z) D r := v_putI hX hf (by rw [hk]; rfl) (by rw [hk]; rcases he with rfl | rfl <;> rfl) (by rw [hk]; rcases he with rfl | rfl <;> rfl) hO.1 hO.2.1 hO.2.2 hd hq k
theorem w_putL (hX : xX γ cc nL y d) {idx ci j a : Nat} {e : Int} (hf : xFL y.cls idx ci j false) (hk : xty ci j = .long) (hO : xOb n a ci) (hd : decode cc pc = .ok (.putfield idx, 3)) (hq : pc + 3 = q) (k : xV γ q pl st (n, z) (xu D a j e) r) : xV γ pc pl (vl e :: .ref a :: st) (n, z) D r := v_putL hX hf hk hO.1 hO.2.1 hO.2.2 hd hq k
theorem w_ild (hX : xX γ cc nL y d) {a kk len : Nat} {i : Int} (hi : i = (kk : Int)) (hk : kk < len) (hA : xAr n a 10 len) (hd : decode cc pc = .ok (.iaload, 1)) (hq : pc + 1 = q) (k : xV γ q pl (vi (D a kk) :: st) (n, z) D r) : xV γ pc pl (vi i :: .ref a :: st) (n, z) D r := v_iaload hX hi hk hA.2.2.2 hA.1 hA.2.1 hA.2.2.1 hd hq k
theorem w_cld (hX : xX γ cc nL y d) {a kk len : Nat} {i : Int} (hi : i = (kk : Int)) (hk : kk < len) (hA : xAr n a 12 len) (hd : decode cc pc = .ok (.caload, 1)) (hq : pc + 1 = q) (k : xV γ q pl (vi (D a kk) :: st) (n, z) D r) : xV γ pc pl (vi i :: .ref a :: st) (n, z) D r := v_caload hX hi hk hA.2.2.2 hA.1 hA.2.1 hA.2.2.1 hd hq k
theorem w_bld (hX : xX γ cc nL y d) {a kk len : Nat} {i : Int} (hi : i = (kk : Int)) (hk : kk < len) (hA : xAr n a 13 len) (hd : decode cc pc = .ok (.baload, 1)) (hq : pc + 1 = q) (k : xV γ q pl (vi (D a kk) :: st) (n, z) D r) : xV γ pc pl (vi i :: .ref a :: st) (n, z) D r := v_baload hX hi hk hA.2.2.2 hA.1 hA.2.1 hA.2.2.1 hd hq k
theorem w_ald (hX : xX γ cc nL y d) {a kk len b c0 : Nat} {i : Int} (hi : i = (kk : Int)) (hk : kk < len) (hA : xAr n a c0 len) (hc0 : c0 = 14 ∨ c0 = 15) (hr : r a kk = some b) (hd : decode cc pc = .ok (.aaload, 1)) (hq : pc + 1 = q) (k : xV γ q pl (.ref b :: st) (n, z) D r) : xV γ pc pl (vi i :: .ref a :: st) (n, z) D r := v_aaload hX hi hk hA.2.2.2 hA.1 hc0 hA.2.1 hA.2.2.1 hr hd hq k
theorem w_ist (hX : xX γ cc nL y d) {a kk len : Nat} {i v : Int} (hi : i = (kk : Int)) (hk : kk < len) (hA : xAr n a 10 len) (hd : decode cc pc = .ok (.iastore, 1)) (hq : pc + 1 = q) (k : xV γ q pl st (n, z) (xu D a kk v) r) : xV γ pc pl (vi v :: vi i :: .ref a :: st) (n, z) D r := v_iastore hX hi hk hA.2.2.2 hA.1 hA.2.1 hA.2.2.1 hd hq k
theorem w_cst (hX : xX γ cc nL y d) {a kk len : Nat} {i v : Int} (hi : i = (kk : Int)) (hk : kk < len) (hn : narrow .char (vi v) = vi v) (hA : xAr n a 12 len) (hd : decode cc pc = .ok (.castore, 1)) (hq : pc + 1 = q) (k : xV γ q pl st (n, z) (xu D a kk v) r) : xV γ pc pl (vi v :: vi i :: .ref a :: st) (n, z) D r := v_castore hX hi hk hA.2.2.2 hn hA.1 hA.2.1 hA.2.2.1 hd hq k
theorem w_bst (hX : xX γ cc nL y d) {a kk len : Nat} {i v : Int} (hi : i = (kk : Int)) (hk : kk < len) (hv : v = 0 ∨ v = 1) (hA : xAr n a 13 len) (hd : decode cc pc = .ok (.bastore, 1)) (hq : pc + 1 = q) (k : xV γ q pl st (n, z) (xu D a kk v) r) : xV γ pc pl (vi v :: vi i :: .ref a :: st) (n, z) D r := v_bastore hX hi hk hA.2.2.2 (by rcases hv with rfl | rfl <;> rfl) hA.1 hA.2.1 hA.2.2.1 hd hq k
theorem w_ifeq (hX : xX γ cc nL y d) {c : Prop} [Decidable c] {off : Int} {tgt : Nat} (hd : decode cc pc = .ok (.ifCond .eq off, 3)) (ht : (pc : Int) + off = (tgt : Int)) (hq : pc + 3 = q) (kt : ¬ c → xV γ tgt pl st (n, z) D r) (kf : c → xV γ q pl st (n, z) D r) : xV γ pc pl (vi (bi c) :: st) (n, z) D r :=
  v_if_eq hX (bi_I c) hd ht hq (fun h => kt (fun hc => by rw [← bi1 hc] at h; omega)) (fun h => kf (Classical.byContradiction fun hc => h (bi0 hc).symm))
theorem w_ifne (hX : xX γ cc nL y d) {c : Prop} [Decidable c] {off : Int} {tgt : Nat} (hd : decode cc pc = .ok (.ifCond .ne off, 3)) (ht : (pc : Int) + off = (tgt : Int)) (hq : pc + 3 = q) (kt : c → xV γ tgt pl st (n, z) D r) (kf : ¬ c → xV γ q pl st (n, z) D r) : xV γ pc pl (vi (bi c) :: st) (n, z) D r :=
  v_if_ne hX (bi_I c) hd ht hq (fun h => kt (Classical.byContradiction fun hc => h (bi0 hc).symm)) (fun h => kf (fun hc => by rw [← bi1 hc] at h; omega))
variable {rest As : List Value} {μ : xM} {d' m a idx : Nat}
theorem w_callV (hX : xX γ cc nL y d) {w : Value} (hM : MX d' μ (.ref a :: As) (n, z) D r (n, z) (xP w D r)) (hst : st = As.reverse ++ .ref a :: rest) (hμ : xMV μ m) (hn : As.length = m) (hdd : d' + 1 ≤ d) (hlk : Cond.methodLink y.cls idx μ.1 ∈ xtb) {ci : Nat} (hci : ci < 5) (hcn : xcn ci = μ.1.cls) (hO : xOb n a ci)
    (hrest : (rest.map Value.category).sum ≤ 8) (hd : decode cc pc = .ok (.invokevirtual idx, 3)) (hq : pc + 3 = q) (k : xV γ q pl (w :: rest) (n, z) D r) : xV γ pc pl st (n, z) D r :=
  v_callV hX hM hst hμ hn hdd hlk hci hcn hO.1 hO.2.1 hO.2.2 hrest hd hq (fun v D' r' h => by obtain ⟨rfl, rfl, rfl⟩ := h; exact k)
theorem w_callVe (hX : xX γ cc nL y d) {w : Value} {Q : xD → Prop} (hM : MX d' μ (.ref a :: As) (n, z) D r (n, z) (xEs w Q r)) (hst : st = As.reverse ++ .ref a :: rest) (hμ : xMV μ m) (hn : As.length = m) (hdd : d' + 1 ≤ d) (hlk : Cond.methodLink y.cls idx μ.1 ∈ xtb) {ci : Nat} (hci : ci < 5) (hcn : xcn ci = μ.1.cls) (hO : xOb n a ci)
    (hrest : (rest.map Value.category).sum ≤ 8) (hd : decode cc pc = .ok (.invokevirtual idx, 3)) (hq : pc + 3 = q) (k : ∀ D', Q D' → xV γ q pl (w :: rest) (n, z) D' r) : xV γ pc pl st (n, z) D r :=
  v_callV hX hM hst hμ hn hdd hlk hci hcn hO.1 hO.2.1 hO.2.2 hrest hd hq (fun v D' r' h => by obtain ⟨rfl, rfl, hQ⟩ := h; exact k D' hQ)
theorem w_callVn (hX : xX γ cc nL y d) {Q : xD → Prop} (hM : MX d' μ (.ref a :: As) (n, z) D r (n, z) (xEn Q r)) (hst : st = As.reverse ++ .ref a :: rest) (hμ : xMV μ m) (hn : As.length = m) (hdd : d' + 1 ≤ d) (hlk : Cond.methodLink y.cls idx μ.1 ∈ xtb) {ci : Nat} (hci : ci < 5) (hcn : xcn ci = μ.1.cls) (hO : xOb n a ci)
    (hrest : (rest.map Value.category).sum ≤ 8) (hd : decode cc pc = .ok (.invokevirtual idx, 3)) (hq : pc + 3 = q) (k : ∀ D', Q D' → xV γ q pl rest (n, z) D' r) : xV γ pc pl st (n, z) D r :=
  v_callV hX hM hst hμ hn hdd hlk hci hcn hO.1 hO.2.1 hO.2.2 hrest hd hq (fun v D' r' h => by obtain ⟨rfl, rfl, hQ⟩ := h; exact k D' hQ)
theorem w_callS (hX : xX γ cc nL y d) {w : Value} (hM : MX d' μ As (n, z) D r (n, z) (xP w D r)) (hst : st = As.reverse ++ rest) (hμ : xMS μ m) (hn : As.length = m) (hdd : d' + 1 ≤ d) (hlk : Cond.methodLink y.cls idx μ.1 ∈ xtb)
    (hrest : (rest.map Value.category).sum ≤ 8) (hd : decode cc pc = .ok (.invokestatic idx, 3)) (hq : pc + 3 = q) (k : xV γ q pl (w :: rest) (n, z) D r) : xV γ pc pl st (n, z) D r :=
  v_callS hX hM hst hμ hn hdd hlk hrest hd hq (fun v D' r' h => by obtain ⟨rfl, rfl, rfl⟩ := h; exact k)
theorem w_callSN (hX : xX γ cc nL y d) {w : Value} (hM : MX d' μ As (n, z) D r (n, z) (xP w D r)) (hst : st = As.reverse ++ rest) (hμ : xMS μ m) (hn : As.length = m) (hdd : d' + 1 ≤ d) (hlk : ∀ ω U H, xKF ω U H → va_Nw (.methodLinkNest y.cls idx μ.1 "LotFences") U)
    (hrest : (rest.map Value.category).sum ≤ 8) (hd : decode cc pc = .ok (.invokestatic idx, 3)) (hq : pc + 3 = q) (k : xV γ q pl (w :: rest) (n, z) D r) : xV γ pc pl st (n, z) D r :=
  v_callSN hX hM hst hμ hn hdd hlk hrest hd hq (fun v D' r' h => by obtain ⟨rfl, rfl, rfl⟩ := h; exact k)
end XW2
/-- a loop that counts up -/
theorem xup {P : Nat → Prop} (N : Nat) (h : ∀ k, k ≤ N → (k < N → P (k + 1)) → P k) : ∀ k, k ≤ N → P k := by
  have key : ∀ m k, k ≤ N → N - k = m → P k := by
    intro m
    induction m with
    | zero => intro k hk hm; exact h k hk (fun hlt => by omega)
    | succ m ih => intro k hk hm; exact h k hk (fun hlt => ih (k + 1) (by omega) (by omega))
  exact fun k hk => key _ k hk rfl
/-- a whole row of the memory becomes another -/
def xw (D : xD) (a : Nat) (f : Nat → Int) : xD := fun q => if q = a then f else D q
theorem xw_at (D : xD) (a : Nat) (f : Nat → Int) : xw D a f a = f := if_pos rfl
theorem xw_ne (D : xD) (a : Nat) (f : Nat → Int) {q : Nat} (h : q ≠ a) : xw D a f q = D q := if_neg h
theorem xw_xw (D : xD) (a : Nat) (f g : Nat → Int) : xw (xw D a f) a g = xw D a g := by funext q; unfold xw; split <;> rfl
theorem xw_self (D : xD) (a : Nat) : xw D a (D a) = D := by funext q; unfold xw; split <;> simp_all
/-- one number of a row becomes another -/
def fu (f : Nat → Int) (j : Nat) (e : Int) : Nat → Int := fun i => if i = j then e else f i
theorem fu_at (f : Nat → Int) (j : Nat) (e : Int) : fu f j e j = e := if_pos rfl
theorem fu_ne (f : Nat → Int) (j : Nat) (e : Int) {i : Nat} (h : i ≠ j) : fu f j e i = f i := if_neg h
theorem xu_xw (D : xD) (a j : Nat) (e : Int) : xu D a j e = xw D a (fu (D a) j e) := by
  funext q; unfold xu xw fu
  by_cases h : q = a
  · subst h; simp
  · simp [h]
theorem xu_xw' (D : xD) (a j : Nat) (e : Int) (f : Nat → Int) : xu (xw D a f) a j e = xw D a (fu f j e) := by rw [xu_xw, xw_xw, xw_at]
/-- fewer locals are known -/
def xle : List (Option Value) → List (Option Value) → Prop
  | [], _ => True
  | none :: xs, _ :: ys => xle xs ys
  | some a :: xs, some b :: ys => b = a ∧ xle xs ys
  | _, _ => False
theorem xle_get : ∀ (pl' pl : List (Option Value)), xle pl' pl → ∀ (k : Nat) (v : Value), xlg pl' k = some v → xlg pl k = some v := by
  intro pl'
  induction pl' with
  | nil => intro pl _ k v h; simp [xlg] at h
  | cons x xs ih =>
    intro pl hle k v h
    cases pl with
    | nil => cases x <;> simp [xle] at hle
    | cons y ys =>
      cases x with
      | none =>
        cases k with
        | zero => simp [xlg] at h
        | succ k => exact ih ys hle k v h
      | some a =>
        cases y with
        | none => simp [xle] at hle
        | some b =>
          obtain ⟨e, hle⟩ := hle
          cases k with
          | zero => rw [show xlg (some b :: ys) 0 = some b from rfl, e]; exact h
          | succ k => exact ih ys hle k v h
theorem xVw {γ : xC} {pc : Nat} {pl pl' : List (Option Value)} {st : List Value} {σ : Nat × Nat} {D : xD} {r : xR} (h : xle pl' pl) (k : xV γ pc pl' st σ D r) : xV γ pc pl st σ D r := by
  obtain ⟨p, l, e, R, s, m, args, below, meth, c, Q, ω, n0, z0, n1, z1⟩ := γ
  intro g1 g2 g3 g4 H locs ls hR hS hL
  refine k g1 g2 g3 g4 H locs ls hR hS ⟨hL.1, hL.2.1, fun q hq => hL.2.2 q ?_⟩
  obtain ⟨j, w, h1, h2, h3⟩ := (xll_mem pl' 0 q).mp hq
  exact (xll_mem pl 0 q).mpr ⟨j, w, h1, xle_get pl' pl h j w h2, h3⟩

