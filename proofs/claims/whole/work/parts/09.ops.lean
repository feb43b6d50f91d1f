/-! ===== what the calls answer, of the mathematical value ===== -/
def aLen (S : SS) (x : Int32) : Int32 := match lk S x with
  | none => (-2)
  | some a => nI (stl S a)
def aChr (S : SS) (x i : Int32) : Int32 := match lk S x with
  | none => (-2)
  | some a => if 0 ≤ i ∧ i < nI (stl S a) then stx S a i.toNatClampNeg else (-1)
def edc (S : SS) (a : Nat) : Int32 := nI 1000 * nI (spo S a) + nI 10 * nI (sle S a) + bI (sde S a)
def aEdit (S : SS) (x : Int32) : Int32 := match lk S x with
  | none => (-2)
  | some a => if a = 0 then (-6) else edc S a
def aPar (S : SS) (x : Int32) : Int32 := match lk S x with
  | none => (-2)
  | some a => if a = 0 then (-6) else oI (spa S a)
def aFav (S : SS) (x : Int32) : Int32 := match lk S x with
  | none => (-2)
  | some a => oI (sfa S a)
def aTim (S : SS) (x : Int32) : Int32 := match lk S x with
  | none => (-2)
  | some a => nI (sti S a)
def farS (S : SS) (a b : Nat) : Int32 := nI (dep S a) + nI (dep S b) - nI 2 * nI (dep S (lca S a b))
def aLca (S : SS) (x y : Int32) : Int32 := match lk S x, lk S y with
  | some a, some b => nI (lca S a b)
  | _, _ => (-2)
def aDis (S : SS) (x y : Int32) : Int32 := match lk S x, lk S y with
  | some a, some b => farS S a b
  | _, _ => (-2)
def chO (pa : Nat → Option Nat) (a : Nat) (i : Int32) : List Nat → Nat → Int32
  | [], _ => (-7)
  | c :: l, n => if pa c = some a then (if nI n = i then nI c else chO pa a i l (n + 1)) else chO pa a i l n
def aChild (S : SS) (x i : Int32) : Int32 := match lk S x with
  | none => (-2)
  | some a => chO (spa S) a i (sL S) 0
def cnt {α : Type} (p : α → Bool) : List α → Nat
  | [] => 0
  | c :: l => (if p c then 1 else 0) + cnt p l
theorem cnt_le {α : Type} (p : α → Bool) : ∀ l : List α, cnt p l ≤ l.length
  | [] => Nat.le_refl 0
  | c :: l => by
    have := cnt_le p l
    unfold cnt
    simp only [List.length_cons]
    split <;> omega
theorem cnt_0 {α : Type} {p : α → Bool} : ∀ {l : List α}, cnt p l = 0 ↔ ∀ c ∈ l, p c = false
  | [] => by simp [cnt]
  | c :: l => by
    have h := cnt_0 (p := p) (l := l)
    unfold cnt
    constructor
    · intro h1 x hx
      rcases List.mem_cons.mp hx with rfl | hx
      · cases hp : p x with
        | false => rfl
        | true => rw [hp] at h1; simp at h1
      · exact h.mp (by omega) x hx
    · intro h1
      rw [h.mpr (fun x hx => h1 x (List.mem_cons_of_mem _ hx)), h1 c List.mem_cons_self]
      rfl
def chN (S : SS) (a : Nat) : Nat := cnt (fun c => decide (spa S c = some a)) (sL S)
def mkN (S : SS) (a : Nat) : Nat := cnt (fun i => decide (smk S i = some a)) (List.range 5)
def loose (S : SS) (a : Nat) : Bool := decide (a ≠ 0 ∧ a ≠ scu S ∧ chN S a = 0 ∧ mkN S a = 0)
def oldF (S : SS) : List Nat → Option Nat → Option Nat
  | [], b => b
  | c :: l, b => oldF S l (if loose S c = true ∧ (∀ e, b = some e → nI (sti S c) < nI (sti S e)) then some c else b)
def aOld (S : SS) : Int32 := oI (oldF S (sL S) none)
theorem drop_ix {S : SS} {b : Nat} (hb : b ∈ sL S) : (sL S).drop (ix S b) = b :: (sL S).drop (ix S b + 1) := by
  have h := ix_len hb
  rw [List.drop_eq_getElem_cons h]
  have h2 := ix_get hb
  rw [List.getElem?_eq_getElem h] at h2
  rw [Option.some.inj h2]
theorem drop_end {S : SS} {k : Nat} (h : k + 0 = (sL S).length) : (sL S).drop k = [] := List.drop_eq_nil_of_le (by omega)
/-! changes -/
def setFa (S : SS) (f : Nat → Option Nat) : SS := (sL S, sgv S, scu S, sck S, spa S, f, sti S, spo S, sle S, sde S, stl S, stx S, ssr S, scl S, scp S, smk S)
def setCl (S : SS) (n : Nat) (f : Nat → Int32) : SS := (sL S, sgv S, scu S, sck S, spa S, sfa S, sti S, spo S, sle S, sde S, stl S, stx S, ssr S, n, f, smk S)
def setMk (S : SS) (f : Nat → Option Nat) : SS := (sL S, sgv S, scu S, sck S, spa S, sfa S, sti S, spo S, sle S, sde S, stl S, stx S, ssr S, scl S, scp S, f)
def favs (pa : Nat → Option Nat) : List Nat → (Nat → Option Nat) → (Nat → Option Nat)
  | [], f => f
  | c :: l, f => favs pa l (match pa c with
    | some b => va_up f b (some c)
    | none => f)
/-- becoming current: the clock, the time, the current one -/
def bec0 (S : SS) (a : Nat) : SS := (sL S, sgv S, a, sck S + 1, spa S, sfa S, va_up (sti S) a (sck S + 1), spo S, sle S, sde S, stl S, stx S, ssr S, scl S, scp S, smk S)
def bec (S : SS) (a : Nat) : SS := setFa (bec0 S a) (favs (spa S) (path S a) (sfa S))
/-- append, clearClip -/
def oApp (S : SS) (x : Int32) : Int32 × SS := if 32 ≤ x ∧ x ≤ 126 then (if scl S = 6 then ((-4), S) else (nI (scl S + 1), setCl S (scl S + 1) (upd (scp S) (scl S) x))) else ((-1), S)
def oClr (S : SS) : Int32 × SS := (nI (scl S), setCl S 0 (scp S))
def oUndo (S : SS) : Int32 × SS := match spa S (scu S) with
  | none => ((-7), S)
  | some b => (nI b, bec S b)
def oRedo (S : SS) : Int32 × SS := match sfa S (scu S) with
  | none => ((-7), S)
  | some b => (nI b, bec S b)
def oJump (S : SS) (x : Int32) : Int32 × SS := match lk S x with
  | none => ((-2), S)
  | some a => (farS S (scu S) a, bec S a)
/-- the marks' numbers -/
def isMk (x : Int32) : Bool := decide (0 ≤ x ∧ x ≤ 4)
def oSetM (S : SS) (m x : Int32) : Int32 × SS := if isMk m = true then (match lk S x with
  | none => ((-2), S)
  | some a => (nI (mkN (setMk S (va_up (smk S) m.toNatClampNeg (some a))) a), setMk S (va_up (smk S) m.toNatClampNeg (some a)))) else ((-1), S)
def oClrM (S : SS) (m : Int32) : Int32 × SS := if isMk m = true then (oI (smk S m.toNatClampNeg), setMk S (va_up (smk S) m.toNatClampNeg none)) else ((-1), S)
def oGoM (S : SS) (m : Int32) : Int32 × SS := if isMk m = true then (match smk S m.toNatClampNeg with
  | none => ((-7), S)
  | some a => (nI a, bec S a)) else ((-1), S)
theorem isMk_of {m : Int32} (h : isMk m = true) : ∃ j : Nat, j < 5 ∧ m = nI j := by
  have h1 : 0 ≤ m ∧ m ≤ 4 := by simpa [isMk] using h
  obtain ⟨j, hj, e⟩ := nI_of2 (M := 4) (n := 4) (by decide) (Int32.not_lt.mpr h1.1) h1.2
  exact ⟨j, by omega, e⟩
/-! the digest -/
def mx (h v : Int64) : Int64 := 31 * h + v
def mxT (f : Nat → Int32) : Nat → Nat → Int64 → Int64
  | 0, _, h => h
  | m + 1, i, h => mxT f m (i + 1) (mx h (f i).toInt64)
def dgN (S : SS) (h : Int64) (a : Nat) : Int64 := mx (mx (mxT (stx S a) (stl S a) 0 (mx (mx (mx (mx h (nI a).toInt64) (if a = 0 then 0 else (oI (spa S a)).toInt64)) (if a = 0 then 0 else (edc S a).toInt64)) (nI (stl S a)).toInt64)) (oI (sfa S a)).toInt64) (nI (sti S a)).toInt64
def dgL (S : SS) : List Nat → Int64 → Int64
  | [], h => h
  | a :: l, h => dgL S l (dgN S h a)
def dig (S : SS) : Int64 := mxT (scp S) (scl S) 0 (mx (mx (mxT (fun i => oI (smk S i)) 5 0 (mx (mx (dgL S (sL S) (mx 1847 (nI (sL S).length).toInt64)) (nI (scu S)).toInt64) (aOld S).toInt64)) (nI (sck S)).toInt64) (nI (scl S)).toInt64)
theorem mxT_cong {f f' : Nat → Int32} : ∀ (m i : Nat) (h : Int64), (∀ j, i ≤ j → j < i + m → f j = f' j) → mxT f m i h = mxT f' m i h
  | 0, _, _, _ => rfl
  | m + 1, i, h, e => by
    show mxT f m (i + 1) _ = mxT f' m (i + 1) _
    rw [e i (Nat.le_refl i) (by omega)]
    exact mxT_cong m (i + 1) _ (fun j h1 h2 => e j (by omega) (by omega))
/-! the laws of every state that a run comes to -/
def Inv (n : Nat) (S : SS) : Prop :=
  Tree S ∧ scu S ∈ sL S ∧ (∀ a ∈ sL S, ∀ c, sfa S a = some c → c ∈ sL S ∧ spa S c = some a) ∧ (∀ a ∈ sL S, sfa S a = none → ∀ c ∈ sL S, ¬ spa S c = some a) ∧ (∀ a ∈ path S (scu S), ∀ b, spa S a = some b → sfa S b = some a) ∧ (∀ i, i < 5 → ∀ a, smk S i = some a → a ∈ sL S) ∧ (∀ a ∈ sL S, stl S a ≤ 40 ∧ sle S a ≤ 6) ∧ (∀ a ∈ sL S, ∀ b, spa S a = some b → editOk S a b) ∧ scl S ≤ 6 ∧ (∀ i, i < scl S → chOk (scp S i)) ∧ (∀ a ∈ sL S, ∀ i, i < stl S a → chOk (stx S a i)) ∧ sgv S ≤ n + 1
theorem Inv.T {n : Nat} {S : SS} (h : Inv n S) : Tree S := h.1
theorem Inv.cu {n : Nat} {S : SS} (h : Inv n S) : scu S ∈ sL S := h.2.1
theorem Inv.fa {n : Nat} {S : SS} (h : Inv n S) {a c : Nat} (ha : a ∈ sL S) (hc : sfa S a = some c) : c ∈ sL S ∧ spa S c = some a := h.2.2.1 a ha c hc
theorem Inv.fn {n : Nat} {S : SS} (h : Inv n S) {a c : Nat} (ha : a ∈ sL S) (hf : sfa S a = none) (hc : c ∈ sL S) : ¬ spa S c = some a := h.2.2.2.1 a ha hf c hc
theorem Inv.fp {n : Nat} {S : SS} (h : Inv n S) {a b : Nat} (ha : a ∈ path S (scu S)) (hb : spa S a = some b) : sfa S b = some a := h.2.2.2.2.1 a ha b hb
theorem Inv.mk {n : Nat} {S : SS} (h : Inv n S) {i a : Nat} (hi : i < 5) (ha : smk S i = some a) : a ∈ sL S := h.2.2.2.2.2.1 i hi a ha
theorem Inv.tl {n : Nat} {S : SS} (h : Inv n S) {a : Nat} (ha : a ∈ sL S) : stl S a ≤ 40 := (h.2.2.2.2.2.2.1 a ha).1
theorem Inv.le {n : Nat} {S : SS} (h : Inv n S) {a : Nat} (ha : a ∈ sL S) : sle S a ≤ 6 := (h.2.2.2.2.2.2.1 a ha).2
theorem Inv.ed {n : Nat} {S : SS} (h : Inv n S) {a b : Nat} (ha : a ∈ sL S) (hb : spa S a = some b) : editOk S a b := h.2.2.2.2.2.2.2.1 a ha b hb
theorem Inv.cl {n : Nat} {S : SS} (h : Inv n S) : scl S ≤ 6 := h.2.2.2.2.2.2.2.2.1
theorem Inv.cp {n : Nat} {S : SS} (h : Inv n S) {i : Nat} (hi : i < scl S) : chOk (scp S i) := h.2.2.2.2.2.2.2.2.2.1 i hi
theorem Inv.tx {n : Nat} {S : SS} (h : Inv n S) {a i : Nat} (ha : a ∈ sL S) (hi : i < stl S a) : chOk (stx S a i) := h.2.2.2.2.2.2.2.2.2.2.1 a ha i hi
theorem Inv.gv {n : Nat} {S : SS} (h : Inv n S) : sgv S ≤ n + 1 := h.2.2.2.2.2.2.2.2.2.2.2
theorem Inv.mkb {n : Nat} {S : SS} (h : Inv n S) : ∀ i, i < 5 → ∀ b, smk S i = some b → b < 2 ^ 31 := fun i hi b hb => by
  have := h.T.lt (h.mk hi hb)
  omega
/-- fewer locals known -/
theorem Ev.weak {g : EG} {d : MD} {pc : Nat} {lv : List (Option Value)} {st : List Value} {ws : va_W} {Ph : Option Value → va_W → Prop} (lv0 : List (Option Value)) (h : ∀ (i : Nat) (v : Value), lv0[i]? = some (some v) → lv[i]? = some (some v)) (k : Ev g d pc lv0 st ws Ph) : Ev g d pc lv st ws Ph := by
  intro p e s m args below meth c H locs ls A F hA hP hD hS hl
  exact k p e s m args below meth c H locs ls A F hA hP hD hS ⟨hl.1, hl.2.1, fun i v hv => hl.2.2 i v (h i v hv)⟩
def lw_le : List (Option Value) → List (Option Value) → Prop
  | [], _ => True
  | none :: l0, l => lw_le l0 l.tail
  | some v :: l0, l => l.head? = some (some v) ∧ lw_le l0 l.tail
theorem lw_le_get : ∀ (l0 l : List (Option Value)), lw_le l0 l → ∀ (i : Nat) (v : Value), l0[i]? = some (some v) → l[i]? = some (some v)
  | [], l, _, i, v, h => by simp at h
  | none :: l0, l, hl, i, v, h => by
    cases i with
    | zero => simp at h
    | succ i =>
      have := lw_le_get l0 l.tail hl i v (by simpa using h)
      cases l with
      | nil => simp at this
      | cons a l => simpa using this
  | some w :: l0, l, hl, i, v, h => by
    cases i with
    | zero =>
      have e : w = v := by simpa using h
      subst e
      cases l with
      | nil => simp [lw_le] at hl
      | cons a l =>
        have := hl.1
        simpa using this
    | succ i =>
      have := lw_le_get l0 l.tail hl.2 i v (by simpa using h)
      cases l with
      | nil => simp at this
      | cons a l => simpa using this
/-! a new node -/
def nTx (f : Nat → Int32) (p n : Nat) (d : Bool) (s : Nat → Int32) (i : Nat) : Int32 := if d = true then (if i < p then f i else f (i + n)) else (if i < p then f i else if i < p + n then s (i - p) else f (i - n))
def nTl (l n : Nat) (d : Bool) : Nat := if d = true then l - n else l + n
def addN (S : SS) (p n : Nat) (d : Bool) (s : Nat → Int32) (t : Nat) : SS := (sL S ++ [sgv S], sgv S + 1, scu S, sck S, va_up (spa S) (sgv S) (some (scu S)), va_up (sfa S) (sgv S) none, va_up (sti S) (sgv S) t, va_up (spo S) (sgv S) p, va_up (sle S) (sgv S) n, va_up (sde S) (sgv S) d, va_up (stl S) (sgv S) (nTl (stl S (scu S)) n d), va_up (stx S) (sgv S) (nTx (stx S (scu S)) p n d s), va_up (ssr S) (sgv S) s, scl S, scp S, smk S)
/-- an edit of the current node -/
def grw (S : SS) (p n : Nat) (d : Bool) (s : Nat → Int32) : SS := bec (addN S p n d s 0) (sgv S)
theorem grw_t (S : SS) (p n : Nat) (d : Bool) (s : Nat → Int32) (t : Nat) : bec (addN S p n d s t) (sgv S) = grw S p n d s := by
  have e : va_up (sti (addN S p n d s t)) (sgv S) (sck S + 1) = va_up (sti (addN S p n d s 0)) (sgv S) (sck S + 1) := by
    show va_up (va_up (sti S) (sgv S) t) (sgv S) (sck S + 1) = va_up (va_up (sti S) (sgv S) 0) (sgv S) (sck S + 1)
    rw [bx_uu, bx_uu]
  have h : bec0 (addN S p n d s t) (sgv S) = bec0 (addN S p n d s 0) (sgv S) := by
    unfold bec0
    rw [show sck (addN S p n d s t) = sck S from rfl, show sck (addN S p n d s 0) = sck S from rfl, e]
    rfl
  unfold grw bec
  rw [h]
  rfl
theorem nI_sur (x : Int32) : ∃ t, nI t = x := ⟨x.toBitVec.toNat, by
  apply Int32.toBitVec_inj.mp
  show (Int32.ofNat x.toBitVec.toNat).toBitVec = x.toBitVec
  simp⟩
theorem sgv_notin {S : SS} (T : Tree S) : sgv S ∉ sL S := fun h => Nat.lt_irrefl _ (T.ltg h)
theorem addN_ix {S : SS} {p n t : Nat} {d : Bool} {s : Nat → Int32} {a : Nat} (ha : a ∈ sL S) : ix (addN S p n d s t) a = ix S a := by
  show (sL S ++ [sgv S]).idxOf a = (sL S).idxOf a
  rw [List.idxOf_append, if_pos ha]
theorem addN_ixn {S : SS} (T : Tree S) {p n t : Nat} {d : Bool} {s : Nat → Int32} : ix (addN S p n d s t) (sgv S) = (sL S).length := by
  show (sL S ++ [sgv S]).idxOf (sgv S) = (sL S).length
  rw [List.idxOf_append, if_neg (sgv_notin T), List.idxOf_cons_self, Nat.zero_add]
theorem addN_T {S : SS} (T : Tree S) (hc : scu S ∈ sL S) (hl : (sL S).length < 24) (hg : sgv S < 600) (p n t : Nat) (d : Bool) (s : Nat → Int32) : Tree (addN S p n d s t) := by
  have h0 : 0 < sgv S := Nat.lt_of_le_of_lt (Nat.zero_le _) (T.ltg T.mem0)
  refine ⟨?_, ?_, ?_, ?_, ?_, ?_, ?_⟩
  · show (sL S ++ [sgv S])[0]? = some 0
    rw [List.getElem?_append_left (Tree.idx T.root)]; exact T.root
  · show (sL S ++ [sgv S]).Pairwise (· < ·)
    exact List.pairwise_append.mpr ⟨T.sorted, List.pairwise_singleton _ _, fun a ha b hb => by rw [List.mem_singleton.mp hb]; exact T.ltg ha⟩
  · show (sL S ++ [sgv S]).length ≤ 24
    simp; omega
  · intro a ha
    show a < sgv S + 1
    rcases List.mem_append.mp (show a ∈ sL S ++ [sgv S] from ha) with h | h
    · exact Nat.lt_succ_of_lt (T.ltg h)
    · rw [List.mem_singleton.mp h]; exact Nat.lt_succ_self _
  · show sgv S + 1 ≤ 600
    omega
  · show va_up (spa S) (sgv S) (some (scu S)) 0 = none
    rw [va_up_ne _ _ (by omega)]; exact T.pa0
  · intro a ha hz
    show ∃ b, va_up (spa S) (sgv S) (some (scu S)) a = some b ∧ b ∈ sL S ++ [sgv S] ∧ b < a
    rcases List.mem_append.mp (show a ∈ sL S ++ [sgv S] from ha) with h | h
    · have h1 : a ≠ sgv S := fun e => sgv_notin T (e ▸ h)
      obtain ⟨b, h2, h3, h4⟩ := T.2.2.2.2.2.2 a h hz
      exact ⟨b, by rw [va_up_ne _ _ h1]; exact h2, List.mem_append_left _ h3, h4⟩
    · have h1 := List.mem_singleton.mp h
      subst h1
      exact ⟨scu S, va_up_self _ _ _, List.mem_append_left _ hc, T.ltg hc⟩
/-! the edits' answers -/
def oIns (S : SS) (x : Int32) : Int32 × SS := if scl S = 0 then ((-7), S) else if 0 ≤ x ∧ x ≤ nI (stl S (scu S)) then (if 40 < stl S (scu S) + scl S then ((-4), S) else if (sL S).length = 24 then ((-3), S) else (nI (sgv S), grw (setCl S 0 (scp S)) x.toNatClampNeg (scl S) false (scp S))) else ((-1), S)
def oDel (S : SS) (x y : Int32) : Int32 × SS := if 0 ≤ x ∧ (1 ≤ y ∧ y ≤ 6) ∧ x ≤ nI (stl S (scu S)) - y then (if (sL S).length = 24 then ((-3), S) else (nI (sgv S), grw S x.toNatClampNeg y.toNatClampNeg true (fun i => stx S (scu S) (x.toNatClampNeg + i)))) else ((-1), S)
/-! selective undo -/
def ahd (dE dC : Bool) (a q m : Nat) : Bool := if dC = true then decide (q + m ≤ a) else if dE = true then decide (q < a) else decide (q ≤ a)
def fre (dE dC : Bool) (n a q m : Nat) : Bool := ahd dE dC a q m || (if dC = true then decide (a + (if dE = true then 0 else n) ≤ q) else (dE || decide (a + n ≤ q)))
def shn (dC h : Bool) (a m : Nat) : Nat := if h = true then (if dC = true then a - m else a + m) else a
def shs (S : SS) (e : Nat) : List Nat → Nat → Nat ⊕ Nat
  | [], a => .inl a
  | c :: l, a => if fre (sde S e) (sde S c) (sle S e) a (spo S c) (sle S c) = true then shs S e l (shn (sde S c) (ahd (sde S e) (sde S c) a (spo S c) (sle S c)) a (sle S c)) else .inr c
/-- from the root down -/
def dwn (S : SS) (a : Nat) : List Nat := (path S a).reverse
def later (S : SS) (e : Nat) : List Nat := (dwn S (scu S)).drop (dep S e + 1)
def shf (S : SS) (e : Nat) : Nat ⊕ Nat := shs S e (later S e) (spo S e)
theorem dwn_some {S : SS} (T : Tree S) {a b : Nat} (ha : a ∈ sL S) (hb : spa S a = some b) : dwn S a = dwn S b ++ [a] := by
  unfold dwn; rw [path_some T ha hb, List.reverse_cons]
theorem dwn_none {S : SS} {a : Nat} (hb : spa S a = none) : dwn S a = [a] := by unfold dwn; rw [path_none hb]; rfl
theorem dwn_len (S : SS) (a : Nat) : (dwn S a).length = dep S a + 1 := by
  unfold dwn dep
  have : 0 < (path S a).length := List.length_pos_of_mem (path_self S a)
  rw [List.length_reverse]; omega
theorem dwn_last {S : SS} (T : Tree S) {a : Nat} (ha : a ∈ sL S) : (dwn S a)[dep S a]? = some a := by
  cases hb : spa S a with
  | none => rw [dwn_none hb, dep_none hb]; rfl
  | some b => rw [dwn_some T ha hb, dep_some T ha hb, List.getElem?_append_right (by rw [dwn_len]; omega), dwn_len, Nat.sub_self]; rfl
theorem dwn_up {S : SS} (T : Tree S) {a b d : Nat} (ha : a ∈ sL S) (hb : spa S a = some b) (hd : d < dep S a) : (dwn S a)[d]? = (dwn S b)[d]? := by
  rw [dwn_some T ha hb, List.getElem?_append_left (by rw [dwn_len]; rw [dep_some T ha hb] at hd; omega)]
theorem dwn_in {S : SS} (T : Tree S) {a d x : Nat} (ha : a ∈ sL S) (h : (dwn S a)[d]? = some x) : x ∈ sL S ∧ x ∈ path S a := by
  have h1 : x ∈ path S a := List.mem_reverse.mp (List.mem_of_getElem? h)
  exact ⟨(path_in T a ha x h1).1, h1⟩
theorem dwn_dep {S : SS} (T : Tree S) : ∀ (a : Nat), a ∈ sL S → ∀ d x, (dwn S a)[d]? = some x → dep S x = d := by
  intro a
  induction a using Nat.strongRecOn with
  | ind a ih =>
    intro ha d x h
    have hl := (List.getElem?_eq_some_iff.mp h).1
    rw [dwn_len] at hl
    by_cases hd : d = dep S a
    · rw [hd, dwn_last T ha] at h
      cases h; exact hd.symm
    · cases hb : spa S a with
      | none => rw [dep_none hb] at hl hd; omega
      | some b =>
        obtain ⟨h1, h2⟩ := T.par ha hb
        rw [dwn_up T ha hb (by omega)] at h
        exact ih b h2 h1 d x h
theorem dwn_at {S : SS} (T : Tree S) : ∀ (a : Nat), a ∈ sL S → ∀ x ∈ path S a, (dwn S a)[dep S x]? = some x := by
  intro a ha x hx
  obtain ⟨d, hd⟩ := List.getElem?_of_mem (List.mem_reverse.mpr hx)
  have := dwn_dep T a ha d x hd
  rw [this]; exact hd
theorem dwn_par {S : SS} (T : Tree S) : ∀ (a : Nat), a ∈ sL S → ∀ d x y, (dwn S a)[d]? = some x → (dwn S a)[d + 1]? = some y → spa S y = some x := by
  intro a
  induction a using Nat.strongRecOn with
  | ind a ih =>
    intro ha d x y hx hy
    have hl := (List.getElem?_eq_some_iff.mp hy).1
    rw [dwn_len] at hl
    cases hb : spa S a with
    | none => rw [dep_none hb] at hl; omega
    | some b =>
      obtain ⟨h1, h2⟩ := T.par ha hb
      by_cases hd : d + 1 = dep S a
      · rw [hd, dwn_last T ha] at hy
        cases hy
        rw [dwn_up T ha hb (by omega)] at hx
        have h3 := dwn_last T h1
        rw [dep_some T ha hb] at hd
        rw [show d = dep S b by omega, h3] at hx
        cases hx; exact hb
      · rw [dwn_up T ha hb (by omega)] at hx hy
        exact ih b h2 h1 d x y hx hy
/-- the undone string stands in the text (or the gap lies in it) -/
def shG (S : SS) (e x a : Nat) : Prop := (sde S e = false → a + sle S e ≤ stl S x ∧ ∀ i, i < sle S e → stx S x (a + i) = ssr S e i) ∧ (sde S e = true → a ≤ stl S x)
theorem shG_0 {n : Nat} {S : SS} (I : Inv n S) {e b : Nat} (he : e ∈ sL S) (hb : spa S e = some b) : shG S e e (spo S e) := by
  obtain ⟨-, -, h1, h2⟩ := I.ed he hb
  constructor
  · intro hd
    obtain ⟨p1, p2, p3, p4, p5⟩ := h2 hd
    exact ⟨by omega, p3⟩
  · intro hd
    obtain ⟨p1, p2, -⟩ := h1 hd
    omega
theorem shG_1 {n : Nat} {S : SS} (I : Inv n S) {e x c a : Nat} (hc : c ∈ sL S) (hx : spa S c = some x) (hn : 1 ≤ sle S e) (h : shG S e x a) (hf : fre (sde S e) (sde S c) (sle S e) a (spo S c) (sle S c) = true) : shG S e c (shn (sde S c) (ahd (sde S e) (sde S c) a (spo S c) (sle S c)) a (sle S c)) := by
  obtain ⟨l1, l2, d1, d2⟩ := I.ed hc hx
  unfold fre at hf
  unfold shn
  cases hE : sde S e with
  | false =>
    obtain ⟨g1, g2⟩ := h.1 hE
    rw [hE] at hf
    refine ⟨fun _ => ?_, fun q => absurd (hE.symm.trans q) (by decide)⟩
    cases hC : sde S c with
    | false =>
      obtain ⟨p1, p2, p3, p4, p5⟩ := d2 hC
      rw [hC] at hf
      by_cases q : spo S c ≤ a
      · have ea : ahd false false a (spo S c) (sle S c) = true := by simp [ahd, q]
        rw [ea, if_pos rfl, if_neg (by decide)]
        refine ⟨by omega, fun i hi => ?_⟩
        rw [show a + sle S c + i = a + i + sle S c by omega, p5 (a + i) (by omega) (by omega)]
        exact g2 i hi
      · have ea : ahd false false a (spo S c) (sle S c) = false := by simp [ahd, q]
        rw [ea] at hf ⊢
        have hf2 : a + sle S e ≤ spo S c := by simpa using hf
        rw [if_neg (by decide)]
        refine ⟨by omega, fun i hi => ?_⟩
        rw [p4 (a + i) (by omega)]
        exact g2 i hi
    | true =>
      obtain ⟨p1, p2, p3, p4, p5⟩ := d1 hC
      rw [hC] at hf
      by_cases q : spo S c + sle S c ≤ a
      · have ea : ahd false true a (spo S c) (sle S c) = true := by simp [ahd, q]
        rw [ea, if_pos rfl, if_pos rfl]
        refine ⟨by omega, fun i hi => ?_⟩
        rw [p5 (a - sle S c + i) (by omega) (by omega), show a - sle S c + i + sle S c = a + i by omega]
        exact g2 i hi
      · have ea : ahd false true a (spo S c) (sle S c) = false := by simp [ahd, q]
        rw [ea] at hf ⊢
        have hf2 : a + sle S e ≤ spo S c := by simpa using hf
        rw [if_neg (by decide)]
        refine ⟨by omega, fun i hi => ?_⟩
        rw [p4 (a + i) (by omega)]
        exact g2 i hi
  | true =>
    have g1 := h.2 hE
    rw [hE] at hf
    refine ⟨fun q => absurd (hE.symm.trans q) (by decide), fun _ => ?_⟩
    cases hC : sde S c with
    | false =>
      obtain ⟨p1, p2, p3, p4, p5⟩ := d2 hC
      cases ahd true false a (spo S c) (sle S c) with
      | false => rw [if_neg (by decide)]; omega
      | true => rw [if_pos rfl, if_neg (by decide)]; omega
    | true =>
      obtain ⟨p1, p2, p3, p4, p5⟩ := d1 hC
      rw [hC] at hf
      by_cases q : spo S c + sle S c ≤ a
      · have ea : ahd true true a (spo S c) (sle S c) = true := by simp [ahd, q]
        rw [ea, if_pos rfl, if_pos rfl]; omega
      · have ea : ahd true true a (spo S c) (sle S c) = false := by simp [ahd, q]
        rw [ea] at hf ⊢
        have hf2 : a ≤ spo S c := by simpa using hf
        rw [if_neg (by decide)]; omega
/-- undoEdit, conflictWith -/
def refS (S : SS) (x : Int32) : Int32 := match lk S x with
  | none => (-2)
  | some e => if e = 0 ∨ e ∉ path S (scu S) then (-6) else 0
def ueR (S : SS) (e : Nat) : Nat ⊕ Nat → Int32 × SS
  | .inr _ => ((-5), S)
  | .inl a => if sde S e = true ∧ 40 < stl S (scu S) + sle S e then ((-4), S) else if (sL S).length = 24 then ((-3), S) else (nI (sgv S), grw S a (sle S e) (!sde S e) (ssr S e))
def oUE (S : SS) (x : Int32) : Int32 × SS := match lk S x with
  | none => ((-2), S)
  | some e => if e = 0 ∨ e ∉ path S (scu S) then ((-6), S) else ueR S e (shf S e)
def cwR : Nat ⊕ Nat → Int32
  | .inr c => nI c
  | .inl _ => (-7)
def aCW (S : SS) (x : Int32) : Int32 := match lk S x with
  | none => (-2)
  | some e => if e = 0 ∨ e ∉ path S (scu S) then (-6) else cwR (shf S e)
theorem oUE_at {S : SS} {x : Int32} {e : Nat} (h : lk S x = some e) (hq : ¬ (e = 0 ∨ e ∉ path S (scu S))) : oUE S x = ueR S e (shf S e) := by
  unfold oUE; rw [h]; show (if _ then _ else _) = _; rw [if_neg hq]
theorem aCW_at {S : SS} {x : Int32} {e : Nat} (h : lk S x = some e) (hq : ¬ (e = 0 ∨ e ∉ path S (scu S))) : aCW S x = cwR (shf S e) := by
  unfold aCW; rw [h]; show (if _ then _ else _) = _; rw [if_neg hq]
section EVN
variable {g : EG} {d : MD} {pc pc' : Nat} {lv : List (Option Value)} {st : List Value} {ws : va_W} {Ph : Option Value → va_W → Prop}
theorem ev_iaddN {x y : Nat} (hd : decode d.2.1 pc = .ok (.iadd, 1)) (hp : pc + 1 = pc') (k : Ev g d pc' lv (.int (nI (x + y)) :: st) ws Ph) : Ev g d pc lv (.int (nI y) :: .int (nI x) :: st) ws Ph := ev_iadd hd hp (by rw [nI_add]; exact k)
theorem ev_imulN {x y : Nat} (hd : decode d.2.1 pc = .ok (.imul, 1)) (hp : pc + 1 = pc') (k : Ev g d pc' lv (.int (nI (x * y)) :: st) ws Ph) : Ev g d pc lv (.int (nI y) :: .int (nI x) :: st) ws Ph := ev_imul hd hp (by rw [pk_mul]; exact k)
theorem ev_isubN {x y : Nat} (h : y ≤ x) (hd : decode d.2.1 pc = .ok (.isub, 1)) (hp : pc + 1 = pc') (k : Ev g d pc' lv (.int (nI (x - y)) :: st) ws Ph) : Ev g d pc lv (.int (nI y) :: .int (nI x) :: st) ws Ph := ev_isub hd hp (by rw [pk_sub h]; exact k)
end EVN
/-! forgetting -/
def sf (w : Nat) (f : Nat → Int32) (lo k : Nat) : Nat → Int32 := fun j => if lo ≤ j ∧ j < k then f (j + w) else f j
theorem sf_0 (w : Nat) (f : Nat → Int32) (lo : Nat) : sf w f lo lo = f := by
  funext j; unfold sf; rw [if_neg (by omega)]
theorem sf_far {w : Nat} {f : Nat → Int32} {lo k j : Nat} (h : k ≤ j) : sf w f lo k j = f j := by unfold sf; rw [if_neg (by omega)]
theorem sf_in {w : Nat} {f : Nat → Int32} {lo k j : Nat} (h : lo ≤ j) (h2 : j < k) : sf w f lo k j = f (j + w) := by unfold sf; rw [if_pos ⟨h, h2⟩]
theorem sf_lo {w : Nat} {f : Nat → Int32} {lo k j : Nat} (h : j < lo) : sf w f lo k j = f j := by unfold sf; rw [if_neg (by omega)]
theorem sf_s {w : Nat} {f : Nat → Int32} {lo k : Nat} (h : lo ≤ k) : upd (sf w f lo k) k (f (k + w)) = sf w f lo (k + 1) := by
  funext j
  by_cases q : j = k
  · rw [q, pk_us, sf_in h (by omega)]
  · rw [pk_un q]
    unfold sf
    by_cases r : lo ≤ j ∧ j < k
    · rw [if_pos r, if_pos (by omega)]
    · rw [if_neg r, if_neg (by omega)]
def rmv (S : SS) (e : Nat) : SS := ((sL S).eraseIdx (ix S e), sgv S, scu S, sck S, spa S, sfa S, sti S, spo S, sle S, sde S, stl S, stx S, ssr S, scl S, scp S, smk S)
theorem rmv_get (S : SS) (e j : Nat) : (sL (rmv S e))[j]? = if j < ix S e then (sL S)[j]? else (sL S)[j + 1]? := by
  show ((sL S).eraseIdx (ix S e))[j]? = _
  rw [List.getElem?_eraseIdx]
theorem rmv_mem {S : SS} (T : Tree S) {e a : Nat} (he : e ∈ sL S) : a ∈ sL (rmv S e) ↔ a ∈ sL S ∧ a ≠ e := by
  constructor
  · intro h
    obtain ⟨j, hj⟩ := List.getElem?_of_mem h
    rw [rmv_get] at hj
    by_cases q : j < ix S e
    · rw [if_pos q] at hj
      exact ⟨Tree.mem hj, fun z => by rw [z] at hj; have := ix_of T hj; omega⟩
    · rw [if_neg q] at hj
      exact ⟨Tree.mem hj, fun z => by rw [z] at hj; have := ix_of T hj; omega⟩
  · rintro ⟨h1, h2⟩
    have h3 : ix S a ≠ ix S e := fun q => h2 (ix_inj T h1 he q)
    by_cases q : ix S a < ix S e
    · exact List.mem_of_getElem? (i := ix S a) (by rw [rmv_get, if_pos q]; exact ix_get h1)
    · exact List.mem_of_getElem? (i := ix S a - 1) (by rw [rmv_get, if_neg (by omega), show ix S a - 1 + 1 = ix S a by omega]; exact ix_get h1)
theorem rmv_len {S : SS} {e : Nat} (he : e ∈ sL S) : (sL (rmv S e)).length = (sL S).length - 1 := by
  show ((sL S).eraseIdx (ix S e)).length = _
  rw [List.length_eraseIdx, if_pos (ix_len he)]
theorem rmv_T {S : SS} (T : Tree S) {e : Nat} (he : e ∈ sL S) (hz : e ≠ 0) (hn : ∀ c ∈ sL S, ¬ spa S c = some e) : Tree (rmv S e) := by
  have hi : ix S e ≠ 0 := fun q => hz ((ix_eq0 T he).mp q)
  refine ⟨?_, ?_, ?_, fun a ha => T.ltg ((rmv_mem T he).mp ha).1, T.gv, T.pa0, fun a ha ha0 => ?_⟩
  · rw [rmv_get, if_pos (by omega)]; exact T.root
  · exact T.sorted.sublist (List.eraseIdx_sublist _ _)
  · rw [rmv_len he]; have := T.len; omega
  · obtain ⟨h1, h2⟩ := (rmv_mem T he).mp ha
    obtain ⟨b, h3, h4, h5⟩ := T.2.2.2.2.2.2 a h1 ha0
    exact ⟨b, h3, (rmv_mem T he).mpr ⟨h4, fun q => hn a h1 (by rw [h3, q])⟩, h5⟩
theorem rmv_ix {S : SS} (T : Tree S) {e a : Nat} (he : e ∈ sL S) (hT : Tree (rmv S e)) (ha : a ∈ sL S) (hae : a ≠ e) : (ix S a < ix S e ∧ ix (rmv S e) a = ix S a) ∨ (ix S e < ix S a ∧ ix (rmv S e) a + 1 = ix S a) := by
  have h3 : ix S a ≠ ix S e := fun q => hae (ix_inj T ha he q)
  by_cases q : ix S a < ix S e
  · left
    exact ⟨q, ix_of hT (by rw [rmv_get, if_pos q]; exact ix_get ha)⟩
  · right
    refine ⟨by omega, ?_⟩
    have := ix_of hT (k := ix S a - 1) (a := a) (by rw [rmv_get, if_neg (by omega), show ix S a - 1 + 1 = ix S a by omega]; exact ix_get ha)
    omega
/-- the newest child -/
def nch (pa : Nat → Option Nat) (p : Nat) (l : List Nat) : Option Nat := (l.filter (fun c => decide (pa c = some p))).getLast?
theorem cnt_filter {α : Type} (p : α → Bool) : ∀ l : List α, cnt p l = (l.filter p).length
  | [] => rfl
  | c :: l => by
    unfold cnt
    rw [cnt_filter p l]
    cases h : p c with
    | true => rw [List.filter_cons_of_pos h]; simp; omega
    | false => rw [List.filter_cons_of_neg (by rw [h]; decide)]; simp
theorem chO_get (pa : Nat → Option Nat) (a i : Nat) (hi : i < 2 ^ 31) : ∀ (l : List Nat) (n : Nat), n + l.length < 2 ^ 31 → n ≤ i → chO pa a (nI i) l n = oI ((l.filter (fun c => decide (pa c = some a)))[i - n]?)
  | [], n, _, _ => by simp [chO, oI]
  | c :: l, n, h1, h2 => by
    unfold chO
    simp only [List.length_cons] at h1
    by_cases q : pa c = some a
    · rw [if_pos q, List.filter_cons_of_pos (by simpa using q)]
      by_cases r : n = i
      · rw [if_pos (by rw [r]), r, Nat.sub_self]; rfl
      · rw [if_neg (fun z => r (nI_inj (by omega) (by omega) z)), chO_get pa a i hi l (n + 1) (by omega) (by omega), show i - n = (i - (n + 1)) + 1 by omega, List.getElem?_cons_succ]
    · rw [if_neg q, List.filter_cons_of_neg (by simpa using q)]
      exact chO_get pa a i hi l n (by omega) h2
theorem chO_none (pa : Nat → Option Nat) (a : Nat) : ∀ (l : List Nat) (n : Nat), n + l.length < 2 ^ 31 → chO pa a (-1) l n = (-7)
  | [], n, _ => rfl
  | c :: l, n, h1 => by
    unfold chO
    simp only [List.length_cons] at h1
    have hne : ¬ nI n = -1 := fun z => by
      have h3 : (nI n).toInt = (-1 : Int32).toInt := by rw [z]
      rw [nI_toInt (by omega)] at h3
      have : ((-1 : Int32)).toInt = -1 := by decide
      omega
    rw [if_neg hne, chO_none pa a l (n + 1) (by omega), chO_none pa a l n (by omega)]
    simp
theorem chO_last (pa : Nat → Option Nat) (a : Nat) (l : List Nat) (hl : l.length < 100) : chO pa a (nI (cnt (fun c => decide (pa c = some a)) l) - nI 1) l 0 = oI (nch pa a l) := by
  unfold nch
  have hc := cnt_le (fun c => decide (pa c = some a)) l
  by_cases h : cnt (fun c => decide (pa c = some a)) l = 0
  · rw [h, show nI 0 - nI 1 = -1 from rfl, chO_none pa a l 0 (by omega)]
    rw [cnt_filter] at h
    rw [List.length_eq_zero_iff.mp h]; rfl
  · rw [pk_sub (by omega), chO_get pa a _ (by omega) l 0 (by omega) (Nat.zero_le _), cnt_filter, Nat.sub_zero, List.getLast?_eq_getElem?]
def fgS (S : SS) (e p : Nat) : SS := if sfa S p = some e then setFa (rmv S e) (va_up (sfa S) p (nch (spa S) p (sL (rmv S e)))) else rmv S e
def oFgt (S : SS) (x : Int32) : Int32 × SS := match lk S x with
  | none => ((-2), S)
  | some e => if loose S e = true then (nI ((sL S).length - 1), fgS S e ((spa S e).getD 0)) else ((-6), S)
theorem oFgt_y {S : SS} {x : Int32} {e p : Nat} (h : lk S x = some e) (hl : loose S e = true) (hp : spa S e = some p) : oFgt S x = (nI ((sL S).length - 1), fgS S e p) := by
  unfold oFgt; rw [h]; show (if _ then _ else _) = _; rw [if_pos hl, hp]; rfl
theorem oFgt_n {S : SS} {x : Int32} {e : Nat} (h : lk S x = some e) (hl : loose S e = false) : oFgt S x = ((-6), S) := by
  unfold oFgt; rw [h]; show (if _ then _ else _) = _; rw [if_neg (by rw [hl]; decide)]
theorem oFgt_0 {S : SS} {x : Int32} (h : lk S x = none) : oFgt S x = ((-2), S) := by unfold oFgt; rw [h]
theorem loose_of {S : SS} {e : Nat} (h : loose S e = true) : e ≠ 0 ∧ e ≠ scu S ∧ chN S e = 0 ∧ mkN S e = 0 := by simpa [loose] using h
theorem loose_ch {S : SS} {e : Nat} (h : loose S e = true) : ∀ c ∈ sL S, ¬ spa S c = some e := fun c hc => by
  have := cnt_0.mp (loose_of h).2.2.1 c hc
  simpa using this
