/-! ===== what the calls answer, of the mathematical value ===== -/
def aLen (S : SS) (x : Int32) : Int32 := match lk S x with
  | none => (-2)
  | some a => nI (stl S a)
def aChr (S : SS) (x i : Int32) : Int32 := match lk S x with
  | none => (-2)
  | some a => if 0 ≤ i ∧ i < nI (stl S a) then stx S a i.toNatClampNeg else (-1)
def edc (S : SS) (a : Nat) : Int32 := nI 1000 * nI (spo S a) + nI 10 * nI (sle S a) + bI (sde S a)
def aEdit (S : SS) (x : Int32) : Int32 := match lk S x with
  | none => (-2)
  | some a => if a = 0 then (-6) else edc S a
def aPar (S : SS) (x : Int32) : Int32 := match lk S x with
  | none => (-2)
  | some a => if a = 0 then (-6) else oI (spa S a)
def aFav (S : SS) (x : Int32) : Int32 := match lk S x with
  | none => (-2)
  | some a => oI (sfa S a)
def aTim (S : SS) (x : Int32) : Int32 := match lk S x with
  | none => (-2)
  | some a => nI (sti S a)
def farS (S : SS) (a b : Nat) : Int32 := nI (dep S a) + nI (dep S b) - nI 2 * nI (dep S (lca S a b))
def aLca (S : SS) (x y : Int32) : Int32 := match lk S x, lk S y with
  | some a, some b => nI (lca S a b)
  | _, _ => (-2)
def aDis (S : SS) (x y : Int32) : Int32 := match lk S x, lk S y with
  | some a, some b => farS S a b
  | _, _ => (-2)
def chO (pa : Nat → Option Nat) (a : Nat) (i : Int32) : List Nat → Nat → Int32
  | [], _ => (-7)
  | c :: l, n => if pa c = some a then (if nI n = i then nI c else chO pa a i l (n + 1)) else chO pa a i l n
def aChild (S : SS) (x i : Int32) : Int32 := match lk S x with
  | none => (-2)
  | some a => chO (spa S) a i (sL S) 0
def cnt {α : Type} (p : α → Bool) : List α → Nat
  | [] => 0
  | c :: l => (if p c then 1 else 0) + cnt p l
theorem cnt_le {α : Type} (p : α → Bool) : ∀ l : List α, cnt p l ≤ l.length
  | [] => Nat.le_refl 0
  | c :: l => by
    have := cnt_le p l
    unfold cnt
    simp only [List.length_cons]
    split <;> omega
theorem cnt_0 {α : Type} {p : α → Bool} : ∀ {l : List α}, cnt p l = 0 ↔ ∀ c ∈ l, p c = false
  | [] => by simp [cnt]
  | c :: l => by
    have h := cnt_0 (p := p) (l := l)
    unfold cnt
    constructor
    · intro h1 x hx
      rcases List.mem_cons.mp hx with rfl | hx
      · cases hp : p x with
        | false => rfl
        | true => rw [hp] at h1; simp at h1
      · exact h.mp (by omega) x hx
    · intro h1
      rw [h.mpr (fun x hx => h1 x (List.mem_cons_of_mem _ hx)), h1 c List.mem_cons_self]
      rfl
def chN (S : SS) (a : Nat) : Nat := cnt (fun c => decide (spa S c = some a)) (sL S)
def mkN (S : SS) (a : Nat) : Nat := cnt (fun i => decide (smk S i = some a)) (List.range 5)
def loose (S : SS) (a : Nat) : Bool := decide (a ≠ 0 ∧ a ≠ scu S ∧ chN S a = 0 ∧ mkN S a = 0)
def oldF (S : SS) : List Nat → Option Nat → Option Nat
  | [], b => b
  | c :: l, b => oldF S l (if loose S c = true ∧ (∀ e, b = some e → nI (sti S c) < nI (sti S e)) then some c else b)
def aOld (S : SS) : Int32 := oI (oldF S (sL S) none)
theorem drop_ix {S : SS} {b : Nat} (hb : b ∈ sL S) : (sL S).drop (ix S b) = b :: (sL S).drop (ix S b + 1) := by
  have h := ix_len hb
  rw [List.drop_eq_getElem_cons h]
  have h2 := ix_get hb
  rw [List.getElem?_eq_getElem h] at h2
  rw [Option.some.inj h2]
theorem drop_end {S : SS} {k : Nat} (h : k + 0 = (sL S).length) : (sL S).drop k = [] := List.drop_eq_nil_of_le (by omega)
/-! changes -/
def setFa (S : SS) (f : Nat → Option Nat) : SS := (sL S, sgv S, scu S, sck S, spa S, f, sti S, spo S, sle S, sde S, stl S, stx S, ssr S, scl S, scp S, smk S)
def setCl (S : SS) (n : Nat) (f : Nat → Int32) : SS := (sL S, sgv S, scu S, sck S, spa S, sfa S, sti S, spo S, sle S, sde S, stl S, stx S, ssr S, n, f, smk S)
def setMk (S : SS) (f : Nat → Option Nat) : SS := (sL S, sgv S, scu S, sck S, spa S, sfa S, sti S, spo S, sle S, sde S, stl S, stx S, ssr S, scl S, scp S, f)
def favs (pa : Nat → Option Nat) : List Nat → (Nat → Option Nat) → (Nat → Option Nat)
  | [], f => f
  | c :: l, f => favs pa l (match pa c with
    | some b => va_up f b (some c)
    | none => f)
/-- becoming current: the clock, the time, the current one -/
def bec0 (S : SS) (a : Nat) : SS := (sL S, sgv S, a, sck S + 1, spa S, sfa S, va_up (sti S) a (sck S + 1), spo S, sle S, sde S, stl S, stx S, ssr S, scl S, scp S, smk S)
def bec (S : SS) (a : Nat) : SS := setFa (bec0 S a) (favs (spa S) (path S a) (sfa S))
/-- append, clearClip -/
def oApp (S : SS) (x : Int32) : Int32 × SS := if 32 ≤ x ∧ x ≤ 126 then (if scl S = 6 then ((-4), S) else (nI (scl S + 1), setCl S (scl S + 1) (upd (scp S) (scl S) x))) else ((-1), S)
def oClr (S : SS) : Int32 × SS := (nI (scl S), setCl S 0 (scp S))
def oUndo (S : SS) : Int32 × SS := match spa S (scu S) with
  | none => ((-7), S)
  | some b => (nI b, bec S b)
def oRedo (S : SS) : Int32 × SS := match sfa S (scu S) with
  | none => ((-7), S)
  | some b => (nI b, bec S b)
def oJump (S : SS) (x : Int32) : Int32 × SS := match lk S x with
  | none => ((-2), S)
  | some a => (farS S (scu S) a, bec S a)
/-- the marks' numbers -/
def isMk (x : Int32) : Bool := decide (0 ≤ x ∧ x ≤ 4)
def oSetM (S : SS) (m x : Int32) : Int32 × SS := if isMk m = true then (match lk S x with
  | none => ((-2), S)
  | some a => (nI (mkN (setMk S (va_up (smk S) m.toNatClampNeg (some a))) a), setMk S (va_up (smk S) m.toNatClampNeg (some a)))) else ((-1), S)
def oClrM (S : SS) (m : Int32) : Int32 × SS := if isMk m = true then (oI (smk S m.toNatClampNeg), setMk S (va_up (smk S) m.toNatClampNeg none)) else ((-1), S)
def oGoM (S : SS) (m : Int32) : Int32 × SS := if isMk m = true then (match smk S m.toNatClampNeg with
  | none => ((-7), S)
  | some a => (nI a, bec S a)) else ((-1), S)
theorem isMk_of {m : Int32} (h : isMk m = true) : ∃ j : Nat, j < 5 ∧ m = nI j := by
  have h1 : 0 ≤ m ∧ m ≤ 4 := by simpa [isMk] using h
  obtain ⟨j, hj, e⟩ := nI_of2 (M := 4) (n := 4) (by decide) (Int32.not_lt.mpr h1.1) h1.2
  exact ⟨j, by omega, e⟩
